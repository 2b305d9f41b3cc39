/-! ===== the class: Values; an Answer, small methods ===== -/
section S25
set_option maxRecDepth 100000 in
set_option maxHeartbeats 4000000 in
theorem ac6_has {G : aw_G} {w : List va_E} {r q : Nat} {kn : Int32} (hw1 : w[r]? = some (.inr (5, [.ref q, .int kn]))) (j : Nat) : AM G fX6_has [.ref r, .int (nI j)] w (qx (.inl (some (.int (bi (bitI kn j))))) w) := by
  refine AM_of (by decide) rfl rfl (Nat.le_of_ble_eq_true rfl) ?_
  show AW G fX6_has 0 0 w 0 [some (.ref r), some (.int (nI j))] [] _
  refine r_aload_n (pc := 0) dX6_has_0 rfl rfl ?_
  refine g_X6_15 (pc := 1) rfl hw1 rfl dX6_has_1 ?_
  refine r_iload_n (pc := 4) dX6_has_4 rfl rfl ?_
  refine s_X6_19 (pc := 5) (kc' := 0) (ks' := 0) rfl rfl (ac_isIn _ _)  (Nat.le_of_ble_eq_true rfl) (Nat.le_of_ble_eq_true rfl) (Nat.le_of_ble_eq_true rfl) (Nat.le_of_ble_eq_true rfl) (by exact (Nat.le_of_ble_eq_true rfl)) rfl (List.forall_mem_cons.mpr ⟨rfl, (List.forall_mem_cons.mpr ⟨rfl, fun _ h => nomatch h⟩)⟩) rfl dX6_has_5 aw_kt (aw_kq ?_)
  refine r_iret (pc := 8) rfl (bi_nar _) dX6_has_8 ?_
  exact ⟨rfl, rfl⟩

set_option maxRecDepth 100000 in
set_option maxHeartbeats 4000000 in
theorem ac6_give {G : aw_G} {w : List va_E} {r q : Nat} {kn : Int32} {vd : Nat → Int32} (hw1 : w[r]? = some (.inr (5, [.ref q, .int kn]))) (hw2 : w[q]? = some (.inl (0, 6, .inl vd))) {j : Nat} (hj : j < 6) (x : Int32) : AM G fX6_give [.ref r, .int (nI j), .int x] w (qx (.inl none) ((w.set q (.inl (0, 6, .inl (upd vd j x)))).set r (.inr (5, [.ref q, .int (kn ||| b1 j)])))) := by
  refine AM_of (by decide) rfl rfl (Nat.le_of_ble_eq_true rfl) ?_
  show AW G fX6_give 0 0 w 0 [some (.ref r), some (.int (nI j)), some (.int x)] [] _
  refine r_iload_n (pc := 0) dX6_give_0 rfl rfl ?_
  refine r_if_lt (pc := 1) (tgt := 32) dX6_give_1 (by decide) (fun h => absurd h (nI_pos (by omega))) (fun h1 => ?_)
  refine r_iload_n (pc := 4) dX6_give_4 rfl rfl ?_
  refine r_aload_n (pc := 5) dX6_give_5 rfl rfl ?_
  refine g_X6_9 (pc := 6) rfl hw1 rfl dX6_give_6 ?_
  refine r_alen (pc := 9) (t := 0) (v := nI 6) (fun _ => rfl) hw2 rfl dX6_give_9 ?_
  refine r_icmp_ge (pc := 10) (tgt := 32) dX6_give_10 (by decide) (fun h => absurd h (nI_ge9 hj (by decide))) (fun h10 => ?_)
  refine r_aload_n (pc := 13) dX6_give_13 rfl rfl ?_
  refine g_X6_9 (pc := 14) rfl hw1 rfl dX6_give_14 ?_
  refine r_iload_n (pc := 17) dX6_give_17 rfl rfl ?_
  refine r_iload_n (pc := 18) dX6_give_18 rfl rfl ?_
  refine r_iastore (pc := 19) (w' := w.set q (.inl (0, 6, .inl (upd vd j x)))) hw2 (vp_in_nI hj (Nat.le_of_ble_eq_true rfl)) dX6_give_19 (by rw [nI_clamp (by omega)]) ?_
  have hw3 : (w.set q (.inl (0, 6, .inl (upd vd j x))))[r]? = some (.inr (5, [.ref q, .int kn])) := by
    rw [List.getElem?_set_ne (fun z => by subst z; rw [hw2] at hw1; cases hw1)]
    exact hw1
  refine r_aload_n (pc := 20) dX6_give_20 rfl rfl ?_
  refine r_dup (pc := 21) dX6_give_21 rfl ?_
  refine g_X6_15 (pc := 22) rfl hw3 rfl dX6_give_22 ?_
  refine r_iconst (pc := 25) (v := 1) dX6_give_25 (by decide) ?_
  refine r_iload_n (pc := 26) dX6_give_26 rfl rfl ?_
  refine r_ishl (pc := 27) dX6_give_27 ?_
  refine r_ior (pc := 28) dX6_give_28 ?_
  refine p_X6_15 (pc := 29) rfl hw3 (Nat.le_of_ble_eq_true rfl) dX6_give_29 rfl ?_
  refine r_vret (pc := 32) rfl dX6_give_32 ?_
  exact ⟨rfl, rfl⟩

set_option maxRecDepth 100000 in
set_option maxHeartbeats 4000000 in
theorem aa_versionNumber {G : aw_G} {ow : Nat → Nat} {w : List va_E} {t b v fa : Nat} {st db : Int32} {vl hs : Nat → Int32} (hA : AN ow w t b v fa st db vl hs)  : AM G fX0_versionNumber [.ref b] w (qx (.inl (some (.int (nI v)))) w) := by
  refine AM_of (by decide) rfl rfl (Nat.le_of_ble_eq_true rfl) ?_
  show AW G fX0_versionNumber 0 0 w 0 [some (.ref b)] [] _
  refine r_aload_n (pc := 0) dX0_versionNumber_0 rfl rfl ?_
  refine g_X0_25 (pc := 1) rfl hA.1.2 rfl dX0_versionNumber_1 ?_
  refine r_iret (pc := 4) rfl rfl dX0_versionNumber_4 ?_
  exact ⟨rfl, rfl⟩

set_option maxRecDepth 100000 in
set_option maxHeartbeats 4000000 in
theorem aa_stateNow {G : aw_G} {ow : Nat → Nat} {w : List va_E} {t b v fa : Nat} {st db : Int32} {vl hs : Nat → Int32} (hA : AN ow w t b v fa st db vl hs)  : AM G fX0_stateNow [.ref b] w (qx (.inl (some (.int st))) w) := by
  refine AM_of (by decide) rfl rfl (Nat.le_of_ble_eq_true rfl) ?_
  show AW G fX0_stateNow 0 0 w 0 [some (.ref b)] [] _
  refine r_aload_n (pc := 0) dX0_stateNow_0 rfl rfl ?_
  refine g_X0_18 (pc := 1) rfl hA.1.2 rfl dX0_stateNow_1 ?_
  refine r_iret (pc := 4) rfl rfl dX0_stateNow_4 ?_
  exact ⟨rfl, rfl⟩

set_option maxRecDepth 100000 in
set_option maxHeartbeats 4000000 in
theorem aa_doubtedFields {G : aw_G} {ow : Nat → Nat} {w : List va_E} {t b v fa : Nat} {st db : Int32} {vl hs : Nat → Int32} (hA : AN ow w t b v fa st db vl hs)  : AM G fX0_doubtedFields [.ref b] w (qx (.inl (some (.int db))) w) := by
  refine AM_of (by decide) rfl rfl (Nat.le_of_ble_eq_true rfl) ?_
  show AW G fX0_doubtedFields 0 0 w 0 [some (.ref b)] [] _
  refine r_aload_n (pc := 0) dX0_doubtedFields_0 rfl rfl ?_
  refine g_X0_22 (pc := 1) rfl hA.1.2 rfl dX0_doubtedFields_1 ?_
  refine r_iret (pc := 4) rfl rfl dX0_doubtedFields_4 ?_
  exact ⟨rfl, rfl⟩

set_option maxRecDepth 100000 in
set_option maxHeartbeats 4000000 in
theorem aa_isDoubted {G : aw_G} {ow : Nat → Nat} {w : List va_E} {t b v fa : Nat} {st db : Int32} {vl hs : Nat → Int32} (hA : AN ow w t b v fa st db vl hs) (j : Nat) : AM G fX0_isDoubted [.ref b, .int (nI j)] w (qx (.inl (some (.int (bi (bitI db j))))) w) := by
  refine AM_of (by decide) rfl rfl (Nat.le_of_ble_eq_true rfl) ?_
  show AW G fX0_isDoubted 0 0 w 0 [some (.ref b), some (.int (nI j))] [] _
  refine r_aload_n (pc := 0) dX0_isDoubted_0 rfl rfl ?_
  refine g_X0_22 (pc := 1) rfl hA.1.2 rfl dX0_isDoubted_1 ?_
  refine r_iload_n (pc := 4) dX0_isDoubted_4 rfl rfl ?_
  refine s_X0_32 (pc := 5) (kc' := 0) (ks' := 0) rfl rfl (ac_isIn _ _)  (Nat.le_of_ble_eq_true rfl) (Nat.le_of_ble_eq_true rfl) (Nat.le_of_ble_eq_true rfl) (Nat.le_of_ble_eq_true rfl) (by exact (Nat.le_of_ble_eq_true rfl)) rfl (List.forall_mem_cons.mpr ⟨rfl, (List.forall_mem_cons.mpr ⟨rfl, fun _ h => nomatch h⟩)⟩) rfl dX0_isDoubted_5 aw_kt (aw_kq ?_)
  refine r_iret (pc := 8) rfl (bi_nar _) dX0_isDoubted_8 ?_
  exact ⟨rfl, rfl⟩

set_option maxRecDepth 100000 in
set_option maxHeartbeats 4000000 in
theorem aa_isReviewable {G : aw_G} {ow : Nat → Nat} {w : List va_E} {t b v fa : Nat} {st db : Int32} {vl hs : Nat → Int32} (hA : AN ow w t b v fa st db vl hs)  : AM G fX0_isReviewable [.ref b] w (qx (.inl (some (.int (bi (decide (st = 1 ∨ st = 3)))))) w) := by
  refine AM_of (by decide) rfl rfl (Nat.le_of_ble_eq_true rfl) ?_
  show AW G fX0_isReviewable 0 0 w 0 [some (.ref b)] [] _
  refine r_aload_n (pc := 0) dX0_isReviewable_0 rfl rfl ?_
  refine g_X0_18 (pc := 1) rfl hA.1.2 rfl dX0_isReviewable_1 ?_
  refine r_iconst (pc := 4) (v := 1) dX0_isReviewable_4 (by decide) ?_
  refine r_icmp_eq (pc := 5) (tgt := 16) dX0_isReviewable_5 (by decide) (fun h5 => ?_) (fun h5 => ?_)
  · refine r_iconst (pc := 16) (v := 1) dX0_isReviewable_16 (by decide) ?_
    refine r_goto (pc := 17) (tgt := 21) dX0_isReviewable_17 (by decide) ?_
    refine r_iret (pc := 21) rfl rfl dX0_isReviewable_21 ?_
    exact ⟨by rw [show decide (st = 1 ∨ st = 3) = true from decide_eq_true (Or.inl h5)]; rfl, rfl⟩
  · refine r_aload_n (pc := 8) dX0_isReviewable_8 rfl rfl ?_
    refine g_X0_18 (pc := 9) rfl hA.1.2 rfl dX0_isReviewable_9 ?_
    refine r_iconst (pc := 12) (v := 3) dX0_isReviewable_12 (by decide) ?_
    refine r_icmp_ne (pc := 13) (tgt := 20) dX0_isReviewable_13 (by decide) (fun h13 => ?_) (fun h13 => ?_)
    · refine r_iconst (pc := 20) (v := 0) dX0_isReviewable_20 (by decide) ?_
      refine r_iret (pc := 21) rfl rfl dX0_isReviewable_21 ?_
      exact ⟨by rw [show decide (st = 1 ∨ st = 3) = false from decide_eq_false (fun z => z.elim h5 h13)]; rfl, rfl⟩
    · refine r_iconst (pc := 16) (v := 1) dX0_isReviewable_16 (by decide) ?_
      refine r_goto (pc := 17) (tgt := 21) dX0_isReviewable_17 (by decide) ?_
      refine r_iret (pc := 21) rfl rfl dX0_isReviewable_21 ?_
      exact ⟨by rw [show decide (st = 1 ∨ st = 3) = true from decide_eq_true (Or.inr h13)]; rfl, rfl⟩

set_option maxRecDepth 100000 in
set_option maxHeartbeats 4000000 in
theorem aa_stateByDoubts {G : aw_G} {ow : Nat → Nat} {w : List va_E} {t b v fa : Nat} {st db : Int32} {vl hs : Nat → Int32} (hA : AN ow w t b v fa st db vl hs)  : AM G fX0_stateByDoubts [.ref b] w (qx (.inl (some (.int (if db = 0 then 1 else 3)))) w) := by
  refine AM_of (by decide) rfl rfl (Nat.le_of_ble_eq_true rfl) ?_
  show AW G fX0_stateByDoubts 0 0 w 0 [some (.ref b)] [] _
  refine r_aload_n (pc := 0) dX0_stateByDoubts_0 rfl rfl ?_
  refine g_X0_22 (pc := 1) rfl hA.1.2 rfl dX0_stateByDoubts_1 ?_
  refine r_if_ne (pc := 4) (tgt := 11) dX0_stateByDoubts_4 (by decide) (fun h4 => ?_) (fun h4 => ?_)
  · refine r_iconst (pc := 11) (v := 3) dX0_stateByDoubts_11 (by decide) ?_
    refine r_iret (pc := 12) rfl rfl dX0_stateByDoubts_12 ?_
    exact ⟨by rw [if_neg h4], rfl⟩
  · refine r_iconst (pc := 7) (v := 1) dX0_stateByDoubts_7 (by decide) ?_
    refine r_goto (pc := 8) (tgt := 12) dX0_stateByDoubts_8 (by decide) ?_
    refine r_iret (pc := 12) rfl rfl dX0_stateByDoubts_12 ?_
    exact ⟨by rw [if_pos h4], rfl⟩

set_option maxRecDepth 100000 in
set_option maxHeartbeats 4000000 in
theorem aa_hasField {G : aw_G} {ow : Nat → Nat} {w : List va_E} {t b v fa : Nat} {st db : Int32} {vl hs : Nat → Int32} (hA : AN ow w t b v fa st db vl hs) {tf fy fq fo fh : Nat} {ty : Nat → Int32} {R6 : Nat → List Int32} {gd : Nat → Option Nat} (hM : FM ow w tf fa fy fq fo fh ty R6 gd) {j : Nat} (hj : j < 6) : AM G fX0_hasField [.ref b, .int (nI j)] w (qx (.inl (some (.int (bi (decide (ty j ≠ 0)))))) w) := by
  refine AM_of (by decide) rfl rfl (Nat.le_of_ble_eq_true rfl) ?_
  show AW G fX0_hasField 0 0 w 0 [some (.ref b), some (.int (nI j))] [] _
  refine r_aload_n (pc := 0) dX0_hasField_0 rfl rfl ?_
  refine g_X0_28 (pc := 1) rfl hA.1.2 rfl dX0_hasField_1 ?_
  refine r_iload_n (pc := 4) dX0_hasField_4 rfl rfl ?_
  refine s_X0_36 (pc := 5) (kc' := 0) (ks' := 0) rfl rfl (ac_typeOfField hM hj) hM.1.2 (Nat.le_of_ble_eq_true rfl) (Nat.le_of_ble_eq_true rfl) (Nat.le_of_ble_eq_true rfl) (Nat.le_of_ble_eq_true rfl) (by exact (Nat.le_of_ble_eq_true rfl)) rfl (List.forall_mem_cons.mpr ⟨rfl, (List.forall_mem_cons.mpr ⟨rfl, fun _ h => nomatch h⟩)⟩) rfl dX0_hasField_5 aw_kt (aw_kq ?_)
  refine r_if_eq (pc := 8) (tgt := 15) dX0_hasField_8 (by decide) (fun h8 => ?_) (fun h8 => ?_)
  · refine r_iconst (pc := 15) (v := 0) dX0_hasField_15 (by decide) ?_
    refine r_iret (pc := 16) rfl rfl dX0_hasField_16 ?_
    exact ⟨by rw [show decide (ty j ≠ 0) = false from decide_eq_false (fun z => z h8)]; rfl, rfl⟩
  · refine r_iconst (pc := 11) (v := 1) dX0_hasField_11 (by decide) ?_
    refine r_goto (pc := 12) (tgt := 16) dX0_hasField_12 (by decide) ?_
    refine r_iret (pc := 16) rfl rfl dX0_hasField_16 ?_
    exact ⟨by rw [show decide (ty j ≠ 0) = true from decide_eq_true h8]; rfl, rfl⟩

set_option maxRecDepth 100000 in
set_option maxHeartbeats 4000000 in
theorem aa_isPutField {G : aw_G} {ow : Nat → Nat} {w : List va_E} {t b v fa : Nat} {st db : Int32} {vl hs : Nat → Int32} (hA : AN ow w t b v fa st db vl hs) {tf fy fq fo fh : Nat} {ty : Nat → Int32} {R6 : Nat → List Int32} {gd : Nat → Option Nat} (hM : FM ow w tf fa fy fq fo fh ty R6 gd) {j : Nat} (hj : j < 6) : AM G fX0_isPutField [.ref b, .int (nI j)] w (qx (.inl (some (.int (bi (decide (ty j ≠ 0) && decide (R6 j = [])))))) w) := by
  refine AM_of (by decide) rfl rfl (Nat.le_of_ble_eq_true rfl) ?_
  show AW G fX0_isPutField 0 0 w 0 [some (.ref b), some (.int (nI j))] [] _
  refine r_aload_n (pc := 0) dX0_isPutField_0 rfl rfl ?_
  refine r_iload_n (pc := 1) dX0_isPutField_1 rfl rfl ?_
  refine s_X0_42 (pc := 2) (kc' := 0) (ks' := 0) rfl rfl (aa_hasField hA hM hj) hA.1.2 (Nat.le_of_ble_eq_true rfl) (Nat.le_of_ble_eq_true rfl) (Nat.le_of_ble_eq_true rfl) (Nat.le_of_ble_eq_true rfl) (by exact (Nat.le_of_ble_eq_true rfl)) rfl (List.forall_mem_cons.mpr ⟨rfl, (List.forall_mem_cons.mpr ⟨rfl, fun _ h => nomatch h⟩)⟩) rfl dX0_isPutField_2 aw_kt (aw_kq ?_)
  refine r_if_eq (pc := 5) (tgt := 23) dX0_isPutField_5 (by decide) (fun h5 => ?_) (fun h5 => ?_)
  · refine r_iconst (pc := 23) (v := 0) dX0_isPutField_23 (by decide) ?_
    refine r_iret (pc := 24) rfl rfl dX0_isPutField_24 ?_
    exact ⟨by rw [bi_eq.mp h5]; rfl, rfl⟩
  · refine r_aload_n (pc := 8) dX0_isPutField_8 rfl rfl ?_
    refine g_X0_28 (pc := 9) rfl hA.1.2 rfl dX0_isPutField_9 ?_
    refine r_iload_n (pc := 12) dX0_isPutField_12 rfl rfl ?_
    refine s_X0_46 (pc := 13) (kc' := 0) (ks' := 0) rfl rfl (ac_isComputed hM hj) hM.1.2 (Nat.le_of_ble_eq_true rfl) (Nat.le_of_ble_eq_true rfl) (Nat.le_of_ble_eq_true rfl) (Nat.le_of_ble_eq_true rfl) (by exact (Nat.le_of_ble_eq_true rfl)) rfl (List.forall_mem_cons.mpr ⟨rfl, (List.forall_mem_cons.mpr ⟨rfl, fun _ h => nomatch h⟩)⟩) rfl dX0_isPutField_13 aw_kt (aw_kq ?_)
    refine r_if_ne (pc := 16) (tgt := 23) dX0_isPutField_16 (by decide) (fun h16 => ?_) (fun h16 => ?_)
    · refine r_iconst (pc := 23) (v := 0) dX0_isPutField_23 (by decide) ?_
      refine r_iret (pc := 24) rfl rfl dX0_isPutField_24 ?_
      have hz : decide (R6 j = []) = false := decide_eq_false (fun z => h16 (by rw [show decide (R6 j ≠ []) = false from decide_eq_false (fun y => y z)]; rfl))
      exact ⟨by rw [hz, Bool.and_false]; rfl, rfl⟩
    · refine r_iconst (pc := 19) (v := 1) dX0_isPutField_19 (by decide) ?_
      refine r_goto (pc := 20) (tgt := 24) dX0_isPutField_20 (by decide) ?_
      refine r_iret (pc := 24) rfl rfl dX0_isPutField_24 ?_
      have hz : decide (R6 j = []) = true := decide_eq_true (Classical.not_not.mp (fun z => absurd (decide_eq_true z) (by rw [bi_eq.mp h16]; decide)))
      exact ⟨by rw [bi_ne.mp h5, hz]; rfl, rfl⟩

set_option maxRecDepth 100000 in
set_option maxHeartbeats 4000000 in
theorem aa_accepts {G : aw_G} {ow : Nat → Nat} {w : List va_E} {t b v fa : Nat} {st db : Int32} {vl hs : Nat → Int32} (hA : AN ow w t b v fa st db vl hs) {tf fy fq fo fh : Nat} {ty : Nat → Int32} {R6 : Nat → List Int32} {gd : Nat → Option Nat} (hM : FM ow w tf fa fy fq fo fh ty R6 gd) {j : Nat} (hj : j < 6) (x : Int32) (hty : ty j = 1 ∨ ty j = 2 ∨ ty j = 3) : AM G fX0_accepts [.ref b, .int (nI j), .int x] w (qx (.inl (some (.int (bi (rightP (ty j) x))))) w) := by
  refine AM_of (by decide) rfl rfl (Nat.le_of_ble_eq_true rfl) ?_
  show AW G fX0_accepts 0 0 w 0 [some (.ref b), some (.int (nI j)), some (.int x)] [] _
  refine r_aload_n (pc := 0) dX0_accepts_0 rfl rfl ?_
  refine g_X0_28 (pc := 1) rfl hA.1.2 rfl dX0_accepts_1 ?_
  refine r_iload_n (pc := 4) dX0_accepts_4 rfl rfl ?_
  refine s_X0_36 (pc := 5) (kc' := 0) (ks' := 0) rfl rfl (ac_typeOfField hM hj) hM.1.2 (Nat.le_of_ble_eq_true rfl) (Nat.le_of_ble_eq_true rfl) (Nat.le_of_ble_eq_true rfl) (Nat.le_of_ble_eq_true rfl) (by exact (Nat.le_of_ble_eq_true rfl)) rfl (List.forall_mem_cons.mpr ⟨rfl, (List.forall_mem_cons.mpr ⟨rfl, fun _ h => nomatch h⟩)⟩) rfl dX0_accepts_5 aw_kt (aw_kq ?_)
  rcases hty with e | e | e
  · rw [e]
    refine r_tableIn (pc := 8) (off := 28) (tgt := 36) dX0_accepts_8 (by decide) (by decide) (by decide) (by decide) ?_
    refine r_iload_n (pc := 36) dX0_accepts_36 rfl rfl ?_
    refine r_sipush (pc := 37) (v := -999) dX0_accepts_37 (by decide) ?_
    refine r_icmp_lt (pc := 40) (tgt := 54) dX0_accepts_40 (by decide) (fun h40 => ?_) (fun h40 => ?_)
    · refine r_iconst (pc := 54) (v := 0) dX0_accepts_54 (by decide) ?_
      refine r_iret (pc := 55) rfl rfl dX0_accepts_55 ?_
      have hz : decide (-999 ≤ x ∧ x ≤ 999) = false := decide_eq_false (fun z => Int32.not_le.mpr h40 z.1)
      have hq : rightP 1 x = false := hz
      exact ⟨by rw [hq]; rfl, rfl⟩
    · refine r_iload_n (pc := 43) dX0_accepts_43 rfl rfl ?_
      refine r_sipush (pc := 44) (v := 999) dX0_accepts_44 (by decide) ?_
      refine r_icmp_gt (pc := 47) (tgt := 54) dX0_accepts_47 (by decide) (fun h47 => ?_) (fun h47 => ?_)
      · refine r_iconst (pc := 54) (v := 0) dX0_accepts_54 (by decide) ?_
        refine r_iret (pc := 55) rfl rfl dX0_accepts_55 ?_
        have hz : decide (-999 ≤ x ∧ x ≤ 999) = false := decide_eq_false (fun z => Int32.not_le.mpr h47 z.2)
        have hq : rightP 1 x = false := hz
        exact ⟨by rw [hq]; rfl, rfl⟩
      · refine r_iconst (pc := 50) (v := 1) dX0_accepts_50 (by decide) ?_
        refine r_goto (pc := 51) (tgt := 55) dX0_accepts_51 (by decide) ?_
        refine r_iret (pc := 55) rfl rfl dX0_accepts_55 ?_
        have hz : decide (-999 ≤ x ∧ x ≤ 999) = true := decide_eq_true (⟨Int32.not_lt.mp h40, Int32.not_lt.mp h47⟩)
        have hq : rightP 1 x = true := hz
        exact ⟨by rw [hq]; rfl, rfl⟩
  · rw [e]
    refine r_tableIn (pc := 8) (off := 48) (tgt := 56) dX0_accepts_8 (by decide) (by decide) (by decide) (by decide) ?_
    refine r_iload_n (pc := 56) dX0_accepts_56 rfl rfl ?_
    refine r_if_eq (pc := 57) (tgt := 65) dX0_accepts_57 (by decide) (fun h57 => ?_) (fun h57 => ?_)
    · refine r_iconst (pc := 65) (v := 1) dX0_accepts_65 (by decide) ?_
      refine r_goto (pc := 66) (tgt := 70) dX0_accepts_66 (by decide) ?_
      refine r_iret (pc := 70) rfl rfl dX0_accepts_70 ?_
      have hz : decide (0 ≤ x ∧ x ≤ 1) = true := decide_eq_true ((by rw [h57]; decide))
      have hq : rightP 2 x = true := hz
      exact ⟨by rw [hq]; rfl, rfl⟩
    · refine r_iload_n (pc := 60) dX0_accepts_60 rfl rfl ?_
      refine r_iconst (pc := 61) (v := 1) dX0_accepts_61 (by decide) ?_
      refine r_icmp_ne (pc := 62) (tgt := 69) dX0_accepts_62 (by decide) (fun h62 => ?_) (fun h62 => ?_)
      · refine r_iconst (pc := 69) (v := 0) dX0_accepts_69 (by decide) ?_
        refine r_iret (pc := 70) rfl rfl dX0_accepts_70 ?_
        have hz : decide (0 ≤ x ∧ x ≤ 1) = false := decide_eq_false (fun z => by
          obtain ⟨i, hi, e⟩ := nI_of2 (x := x) (M := 1) (n := 1) (by decide) (Int32.not_lt.mpr z.1) z.2
          rcases (show i = 0 ∨ i = 1 by omega) with y | y
          · exact h57 (by rw [e, y]; rfl)
          · exact h62 (by rw [e, y]; rfl))
        have hq : rightP 2 x = false := hz
        exact ⟨by rw [hq]; rfl, rfl⟩
      · refine r_iconst (pc := 65) (v := 1) dX0_accepts_65 (by decide) ?_
        refine r_goto (pc := 66) (tgt := 70) dX0_accepts_66 (by decide) ?_
        refine r_iret (pc := 70) rfl rfl dX0_accepts_70 ?_
        have hz : decide (0 ≤ x ∧ x ≤ 1) = true := decide_eq_true ((by rw [h62]; decide))
        have hq : rightP 2 x = true := hz
        exact ⟨by rw [hq]; rfl, rfl⟩
  · rw [e]
    refine r_tableIn (pc := 8) (off := 63) (tgt := 71) dX0_accepts_8 (by decide) (by decide) (by decide) (by decide) ?_
    refine r_iload_n (pc := 71) dX0_accepts_71 rfl rfl ?_
    refine r_if_lt (pc := 72) (tgt := 85) dX0_accepts_72 (by decide) (fun h72 => ?_) (fun h72 => ?_)
    · refine r_iconst (pc := 85) (v := 0) dX0_accepts_85 (by decide) ?_
      refine r_iret (pc := 86) rfl rfl dX0_accepts_86 ?_
      have hz : decide (0 ≤ x ∧ x ≤ 9) = false := decide_eq_false (fun z => Int32.not_le.mpr h72 z.1)
      have hq : rightP 3 x = false := hz
      exact ⟨by rw [hq]; rfl, rfl⟩
    · refine r_iload_n (pc := 75) dX0_accepts_75 rfl rfl ?_
      refine r_bipush (pc := 76) (v := 9) dX0_accepts_76 (by decide) ?_
      refine r_icmp_gt (pc := 78) (tgt := 85) dX0_accepts_78 (by decide) (fun h78 => ?_) (fun h78 => ?_)
      · refine r_iconst (pc := 85) (v := 0) dX0_accepts_85 (by decide) ?_
        refine r_iret (pc := 86) rfl rfl dX0_accepts_86 ?_
        have hz : decide (0 ≤ x ∧ x ≤ 9) = false := decide_eq_false (fun z => Int32.not_le.mpr h78 z.2)
        have hq : rightP 3 x = false := hz
        exact ⟨by rw [hq]; rfl, rfl⟩
      · refine r_iconst (pc := 81) (v := 1) dX0_accepts_81 (by decide) ?_
        refine r_goto (pc := 82) (tgt := 86) dX0_accepts_82 (by decide) ?_
        refine r_iret (pc := 86) rfl rfl dX0_accepts_86 ?_
        have hz : decide (0 ≤ x ∧ x ≤ 9) = true := decide_eq_true (⟨Int32.not_lt.mp h72, Int32.not_lt.mp h78⟩)
        have hq : rightP 3 x = true := hz
        exact ⟨by rw [hq]; rfl, rfl⟩

set_option maxRecDepth 100000 in
set_option maxHeartbeats 4000000 in
theorem aa_hasValue {G : aw_G} {ow : Nat → Nat} {w : List va_E} {t b v fa : Nat} {st db : Int32} {vl hs : Nat → Int32} (hA : AN ow w t b v fa st db vl hs) {j : Nat} (hj : j < 6) : AM G fX0_hasValue [.ref b, .int (nI j)] w (qx (.inl (some (.int (hs j)))) w) := by
  refine AM_of (by decide) rfl rfl (Nat.le_of_ble_eq_true rfl) ?_
  show AW G fX0_hasValue 0 0 w 0 [some (.ref b), some (.int (nI j))] [] _
  obtain ⟨kn, vd, hr, hd, hde, hke⟩ := id hA.2
  refine r_aload_n (pc := 0) dX0_hasValue_0 rfl rfl ?_
  refine g_X0_12 (pc := 1) rfl hA.1.2 rfl dX0_hasValue_1 ?_
  refine r_iload_n (pc := 4) dX0_hasValue_4 rfl rfl ?_
  refine s_X0_49 (pc := 5) (kc' := 0) (ks' := 0) rfl rfl (ac6_has hr.2 j) hr.2 (Nat.le_of_ble_eq_true rfl) (Nat.le_of_ble_eq_true rfl) (Nat.le_of_ble_eq_true rfl) (Nat.le_of_ble_eq_true rfl) (by exact (Nat.le_of_ble_eq_true rfl)) rfl (List.forall_mem_cons.mpr ⟨rfl, (List.forall_mem_cons.mpr ⟨rfl, fun _ h => nomatch h⟩)⟩) rfl dX0_hasValue_5 aw_kt (aw_kq ?_)
  refine r_iret (pc := 8) rfl (bi_nar _) dX0_hasValue_8 ?_
  exact ⟨by rw [hke j hj], rfl⟩

set_option maxRecDepth 100000 in
set_option maxHeartbeats 4000000 in
theorem aa_valueAt {G : aw_G} {ow : Nat → Nat} {w : List va_E} {t b v fa : Nat} {st db : Int32} {vl hs : Nat → Int32} (hA : AN ow w t b v fa st db vl hs) {j : Nat} (hj : j < 6) : AM G fX0_valueAt [.ref b, .int (nI j)] w (qx (.inl (some (.int (vl j)))) w) := by
  refine AM_of (by decide) rfl rfl (Nat.le_of_ble_eq_true rfl) ?_
  show AW G fX0_valueAt 0 0 w 0 [some (.ref b), some (.int (nI j))] [] _
  obtain ⟨kn, vd, hr, hd, hde, hke⟩ := id hA.2
  refine r_aload_n (pc := 0) dX0_valueAt_0 rfl rfl ?_
  refine g_X0_12 (pc := 1) rfl hA.1.2 rfl dX0_valueAt_1 ?_
  refine r_iload_n (pc := 4) dX0_valueAt_4 rfl rfl ?_
  refine s_X0_52 (pc := 5) (kc' := 0) (ks' := 0) rfl rfl (ac6_at hr.2 hd.2 hj) hr.2 (Nat.le_of_ble_eq_true rfl) (Nat.le_of_ble_eq_true rfl) (Nat.le_of_ble_eq_true rfl) (Nat.le_of_ble_eq_true rfl) (by exact (Nat.le_of_ble_eq_true rfl)) rfl (List.forall_mem_cons.mpr ⟨rfl, (List.forall_mem_cons.mpr ⟨rfl, fun _ h => nomatch h⟩)⟩) rfl dX0_valueAt_5 aw_kt (aw_kq ?_)
  refine r_iret (pc := 8) rfl rfl dX0_valueAt_8 ?_
  exact ⟨by rw [hde j hj], rfl⟩

/-- an Answer has changed, and nothing else -/
def anQ (ow : Nat → Nat) (w : List va_E) (ts : List Nat) (t b v fa : Nat) (st db : Int32) (vl hs : Nat → Int32) : aw_R → List va_E → Prop := fun r w' => r = .inl none ∧ kp ow ow ts w w' ∧ AN ow w' t b v fa st db vl hs
theorem aw_kA {G : aw_G} {F : aw_F} {kc ks : Nat} {ow : Nat → Nat} {w : List va_E} {ts : List Nat} {t b v fa : Nat} {st db : Int32} {vl hs : Nat → Int32} {pc : Nat} {loc : List (Option Value)} {rest : List Value} {Q : aw_R → List va_E → Prop} (h : ∀ w', kp ow ow ts w w' → AN ow w' t b v fa st db vl hs → AW G F kc ks w' pc loc rest Q) : ∀ (r : Option Value) (w' : List va_E), anQ ow w ts t b v fa st db vl hs (.inl r) w' → w.length ≤ w'.length → AW G F kc ks w' pc loc (r.toList ++ rest) Q := by
  rintro r w' ⟨e, hk, hA⟩ -
  cases e
  exact h w' hk hA
theorem aw_tA {ow : Nat → Nat} {w : List va_E} {ts : List Nat} {t b v fa : Nat} {st db : Int32} {vl hs : Nat → Int32} {Q : aw_R → List va_E → Prop} : ∀ (E : String) (w' : List va_E), anQ ow w ts t b v fa st db vl hs (.inr E) w' → w.length ≤ w'.length → Q (.inr E) w' := by
  rintro E w' ⟨e, -⟩
  cases e
theorem AN_val {ow : Nat → Nat} {w : List va_E} {t b v fa : Nat} {st db : Int32} {vl hs : Nat → Int32} (hA : AN ow w t b v fa st db vl hs) (ht : t ≠ 1) {j : Nat} (hj : j < 6) (x kn : Int32) (vd : Nat → Int32) (hr : cl ow w t (b + 1) (.inr (5, [.ref (b + 2), .int kn]))) (hd : cl ow w t (b + 2) (.inl (0, 6, .inl vd))) (hde : ∀ j, j < 6 → vd j = vl j) (hke : ∀ j, j < 6 → hs j = bi (bitI kn j)) : kp ow ow [t] w ((w.set (b + 2) (.inl (0, 6, .inl (upd vd j x)))).set (b + 1) (.inr (5, [.ref (b + 2), .int (kn ||| b1 j)]))) ∧ AN ow ((w.set (b + 2) (.inl (0, 6, .inl (upd vd j x)))).set (b + 1) (.inr (5, [.ref (b + 2), .int (kn ||| b1 j)]))) t b v fa st db (upd vl j x) (upd hs j 1) := by
  refine ⟨kp_tr (kp_set hd.1 (List.mem_singleton.mpr rfl) ht) (kp_set hr.1 (List.mem_singleton.mpr rfl) ht), cl_ne (cl_ne hA.1 (by omega)) (by omega), kn ||| b1 j, upd vd j x, cl_set (cl_ne hr (by omega)), cl_ne (cl_set hd) (by omega), fun i hi => ?_, fun i hi => ?_⟩
  · by_cases e : i = j
    · subst e; rw [upd_s, upd_s]
    · rw [upd_n _ _ e, upd_n _ _ e, hde i hi]
  · rw [bitI_or (by omega), bitI_b1 (by omega) (by omega)]
    by_cases e : i = j
    · subst e; rw [upd_s, decide_eq_true rfl, Bool.or_true]; rfl
    · rw [upd_n _ _ e, decide_eq_false e, Bool.or_false, hke i hi]
set_option maxRecDepth 100000 in
set_option maxHeartbeats 4000000 in
theorem aa_write {G : aw_G} {ow : Nat → Nat} {w : List va_E} {t b v fa : Nat} {st db : Int32} {vl hs : Nat → Int32} (hA : AN ow w t b v fa st db vl hs) (ht : t ≠ 1) {j : Nat} (hj : j < 6) (x : Int32) : AM G fX0_write [.ref b, .int (nI j), .int x] w (anQ ow w [t] t b v fa st db (upd vl j x) (upd hs j 1)) := by
  refine AM_of (by decide) rfl rfl (Nat.le_of_ble_eq_true rfl) ?_
  show AW G fX0_write 0 0 w 0 [some (.ref b), some (.int (nI j)), some (.int x)] [] _
  obtain ⟨kn, vd, hr, hd, hde, hke⟩ := id hA.2
  refine r_aload_n (pc := 0) dX0_write_0 rfl rfl ?_
  refine g_X0_12 (pc := 1) rfl hA.1.2 rfl dX0_write_1 ?_
  refine r_iload_n (pc := 4) dX0_write_4 rfl rfl ?_
  refine r_iload_n (pc := 5) dX0_write_5 rfl rfl ?_
  refine s_X0_55 (pc := 6) (kc' := 0) (ks' := 0) rfl rfl (ac6_give hr.2 hd.2 hj x) hr.2 (Nat.le_of_ble_eq_true rfl) (Nat.le_of_ble_eq_true rfl) (Nat.le_of_ble_eq_true rfl) (Nat.le_of_ble_eq_true rfl) (by exact (Nat.le_of_ble_eq_true rfl)) rfl (List.forall_mem_cons.mpr ⟨rfl, (List.forall_mem_cons.mpr ⟨rfl, (List.forall_mem_cons.mpr ⟨rfl, fun _ h => nomatch h⟩)⟩)⟩) rfl dX0_write_6 aw_kt (aw_kv ?_)
  refine r_vret (pc := 9) rfl dX0_write_9 ?_
  exact ⟨rfl, AN_val hA ht hj x kn vd hr hd hde hke⟩

theorem AN_put {ow : Nat → Nat} {w : List va_E} {t b v fa : Nat} {st db : Int32} {vl hs : Nat → Int32} (hA : AN ow w t b v fa st db vl hs) (ht : t ≠ 1) (st' db' : Int32) : kp ow ow [t] w (w.set b (.inr (0, [.int (nI v), .ref fa, .ref (b + 1), .int st', .int db']))) ∧ AN ow (w.set b (.inr (0, [.int (nI v), .ref fa, .ref (b + 1), .int st', .int db']))) t b v fa st' db' vl hs := by
  obtain ⟨h1, kn, vd, h2, h3, h4⟩ := hA
  exact ⟨kp_set h1.1 (List.mem_singleton.mpr rfl) ht, cl_set h1, kn, vd, cl_ne h2 (by omega), cl_ne h3 (by omega), h4⟩
set_option maxRecDepth 100000 in
set_option maxHeartbeats 4000000 in
theorem aa_strike {G : aw_G} {ow : Nat → Nat} {w : List va_E} {t b v fa : Nat} {st db : Int32} {vl hs : Nat → Int32} (hA : AN ow w t b v fa st db vl hs) (ht : t ≠ 1) : AM G fX0_strike [.ref b] w (anQ ow w [t] t b v fa 4 db vl hs) := by
  refine AM_of (by decide) rfl rfl (Nat.le_of_ble_eq_true rfl) ?_
  show AW G fX0_strike 0 0 w 0 [some (.ref b)] [] _
  refine r_aload_n (pc := 0) dX0_strike_0 rfl rfl ?_
  refine r_iconst (pc := 1) (v := 4) dX0_strike_1 (by decide) ?_
  refine p_X0_18 (pc := 2) rfl hA.1.2 (Nat.le_of_ble_eq_true rfl) dX0_strike_2 rfl ?_
  refine r_vret (pc := 5) rfl dX0_strike_5 ?_
  exact ⟨rfl, AN_put hA ht 4 db⟩

set_option maxRecDepth 100000 in
set_option maxHeartbeats 4000000 in
theorem aa_addDoubts {G : aw_G} {ow : Nat → Nat} {w : List va_E} {t b v fa : Nat} {st db : Int32} {vl hs : Nat → Int32} (hA : AN ow w t b v fa st db vl hs) (ht : t ≠ 1) (x : Int32) : AM G fX0_addDoubts [.ref b, .int x] w (anQ ow w [t] t b v fa (if db ||| x = 0 then 1 else 3) (db ||| x) vl hs) := by
  refine AM_of (by decide) rfl rfl (Nat.le_of_ble_eq_true rfl) ?_
  show AW G fX0_addDoubts 0 0 w 0 [some (.ref b), some (.int x)] [] _
  refine r_aload_n (pc := 0) dX0_addDoubts_0 rfl rfl ?_
  refine r_dup (pc := 1) dX0_addDoubts_1 rfl ?_
  refine g_X0_22 (pc := 2) rfl hA.1.2 rfl dX0_addDoubts_2 ?_
  refine r_iload_n (pc := 5) dX0_addDoubts_5 rfl rfl ?_
  refine r_ior (pc := 6) dX0_addDoubts_6 ?_
  refine p_X0_22 (pc := 7) rfl hA.1.2 (Nat.le_of_ble_eq_true rfl) dX0_addDoubts_7 rfl ?_
  have hk9 := (AN_put hA ht st (db ||| x)).1
  have hA := (AN_put hA ht st (db ||| x)).2
  refine r_aload_n (pc := 10) dX0_addDoubts_10 rfl rfl ?_
  refine r_aload_n (pc := 11) dX0_addDoubts_11 rfl rfl ?_
  refine s_X0_82 (pc := 12) (kc' := 0) (ks' := 0) rfl rfl (aa_stateByDoubts hA) hA.1.2 (Nat.le_of_ble_eq_true rfl) (Nat.le_of_ble_eq_true rfl) (Nat.le_of_ble_eq_true rfl) (Nat.le_of_ble_eq_true rfl) (by exact (Nat.le_of_ble_eq_true rfl)) rfl (List.forall_mem_cons.mpr ⟨rfl, fun _ h => nomatch h⟩) rfl dX0_addDoubts_12 aw_kt (aw_kq ?_)
  refine p_X0_18 (pc := 15) rfl hA.1.2 (Nat.le_of_ble_eq_true rfl) dX0_addDoubts_15 rfl ?_
  refine r_vret (pc := 18) rfl dX0_addDoubts_18 ?_
  exact ⟨rfl, kp_tr hk9 (AN_put hA ht _ (db ||| x)).1, (AN_put hA ht _ (db ||| x)).2⟩

set_option maxRecDepth 100000 in
set_option maxHeartbeats 4000000 in
theorem aa_release {G : aw_G} {ow : Nat → Nat} {w : List va_E} {t b v fa : Nat} {st db : Int32} {vl hs : Nat → Int32} (hA : AN ow w t b v fa st db vl hs) (ht : t ≠ 1) (j : Nat) : AM G fX0_release [.ref b, .int (nI j)] w (anQ ow w [t] t b v fa (if db &&& (b1 j ^^^ (-1)) = 0 then 1 else 3) (db &&& (b1 j ^^^ (-1))) vl hs) := by
  refine AM_of (by decide) rfl rfl (Nat.le_of_ble_eq_true rfl) ?_
  show AW G fX0_release 0 0 w 0 [some (.ref b), some (.int (nI j))] [] _
  refine r_aload_n (pc := 0) dX0_release_0 rfl rfl ?_
  refine r_dup (pc := 1) dX0_release_1 rfl ?_
  refine g_X0_22 (pc := 2) rfl hA.1.2 rfl dX0_release_2 ?_
  refine r_iconst (pc := 5) (v := 1) dX0_release_5 (by decide) ?_
  refine r_iload_n (pc := 6) dX0_release_6 rfl rfl ?_
  refine r_ishl (pc := 7) dX0_release_7 ?_
  refine r_iconst (pc := 8) (v := -1) dX0_release_8 (by decide) ?_
  refine r_ixor (pc := 9) dX0_release_9 ?_
  refine r_iand (pc := 10) dX0_release_10 ?_
  refine p_X0_22 (pc := 11) rfl hA.1.2 (Nat.le_of_ble_eq_true rfl) dX0_release_11 rfl ?_
  have hk9 := (AN_put hA ht st (db &&& (b1 j ^^^ (-1)))).1
  have hA := (AN_put hA ht st (db &&& (b1 j ^^^ (-1)))).2
  refine r_aload_n (pc := 14) dX0_release_14 rfl rfl ?_
  refine r_aload_n (pc := 15) dX0_release_15 rfl rfl ?_
  refine s_X0_82 (pc := 16) (kc' := 0) (ks' := 0) rfl rfl (aa_stateByDoubts hA) hA.1.2 (Nat.le_of_ble_eq_true rfl) (Nat.le_of_ble_eq_true rfl) (Nat.le_of_ble_eq_true rfl) (Nat.le_of_ble_eq_true rfl) (by exact (Nat.le_of_ble_eq_true rfl)) rfl (List.forall_mem_cons.mpr ⟨rfl, fun _ h => nomatch h⟩) rfl dX0_release_16 aw_kt (aw_kq ?_)
  refine p_X0_18 (pc := 19) rfl hA.1.2 (Nat.le_of_ble_eq_true rfl) dX0_release_19 rfl ?_
  refine r_vret (pc := 22) rfl dX0_release_22 ?_
  exact ⟨rfl, kp_tr hk9 (AN_put hA ht _ (db &&& (b1 j ^^^ (-1)))).1, (AN_put hA ht _ (db &&& (b1 j ^^^ (-1)))).2⟩

end S25
