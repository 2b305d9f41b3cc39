/-! ===== the class: a Form, small methods ===== -/
section S20
theorem FO_none {ow : Nat → Nat} {w : List va_E} {o : Option Nat} {row : List Int32} (h : FO ow w o row) : row = [] ↔ o = none := by
  cases o with
  | none => exact ⟨fun _ => rfl, fun _ => h⟩
  | some a => exact ⟨fun z => absurd z (wfr_ne h.1), fun z => by cases z⟩
theorem FO_some {ow : Nat → Nat} {w : List va_E} {o : Option Nat} {a : Nat} {row : List Int32} (h : FO ow w o row) (e : o = some a) : FP ow w a row := by
  subst e; exact h
set_option maxRecDepth 100000 in
set_option maxHeartbeats 4000000 in
theorem ac_typeOfField {G : aw_G} {ow : Nat → Nat} {w : List va_E} {t a y q o h : Nat} {ty : Nat → Int32} {R6 : Nat → List Int32} {gd : Nat → Option Nat} (hM : FM ow w t a y q o h ty R6 gd) {j : Nat} (hj : j < 6) : AM G fX1_typeOfField [.ref a, .int (nI j)] w (qx (.inl (some (.int (ty j)))) w) := by
  refine AM_of (by decide) rfl rfl (Nat.le_of_ble_eq_true rfl) ?_
  show AW G fX1_typeOfField 0 0 w 0 [some (.ref a), some (.int (nI j))] [] _
  obtain ⟨td, hd, hde⟩ := hM.2.1.2
  refine r_aload_n (pc := 0) dX1_typeOfField_0 rfl rfl ?_
  refine g_X1_26 (pc := 1) rfl hM.1.2 rfl dX1_typeOfField_1 ?_
  refine r_iload_n (pc := 4) dX1_typeOfField_4 rfl rfl ?_
  refine s_X1_30 (pc := 5) (kc' := 0) (ks' := 0) rfl rfl (ac5_at hM.2.1.1.2 hd.2 hj) hM.2.1.1.2 (Nat.le_of_ble_eq_true rfl) (Nat.le_of_ble_eq_true rfl) (Nat.le_of_ble_eq_true rfl) (Nat.le_of_ble_eq_true rfl) (by exact (Nat.le_of_ble_eq_true rfl)) rfl (List.forall_mem_cons.mpr ⟨rfl, (List.forall_mem_cons.mpr ⟨rfl, fun _ h => nomatch h⟩)⟩) rfl dX1_typeOfField_5 aw_kt (aw_kq ?_)
  refine r_iret (pc := 8) rfl rfl dX1_typeOfField_8 ?_
  exact ⟨by rw [hde j hj], rfl⟩

set_option maxRecDepth 100000 in
set_option maxHeartbeats 4000000 in
theorem ac_formulaAt {G : aw_G} {ow : Nat → Nat} {w : List va_E} {t a y q o h : Nat} {ty : Nat → Int32} {R6 : Nat → List Int32} {gd : Nat → Option Nat} (hM : FM ow w t a y q o h ty R6 gd) {k : Nat} (hk : k < 10) : AM G fX1_formulaAt [.ref a, .int (nI k)] w (qx (.inl (some (va_rf (gd k)))) w) := by
  refine AM_of (by decide) rfl rfl (Nat.le_of_ble_eq_true rfl) ?_
  show AW G fX1_formulaAt 0 0 w 0 [some (.ref a), some (.int (nI k))] [] _
  refine r_iload_n (pc := 0) dX1_formulaAt_0 rfl rfl ?_
  refine r_if_lt (pc := 1) (tgt := 22) dX1_formulaAt_1 (by decide) (fun h => absurd h (nI_pos (by omega))) (fun h1 => ?_)
  refine r_iload_n (pc := 4) dX1_formulaAt_4 rfl rfl ?_
  refine r_aload_n (pc := 5) dX1_formulaAt_5 rfl rfl ?_
  refine g_X1_11 (pc := 6) rfl hM.1.2 rfl dX1_formulaAt_6 ?_
  refine r_alen (pc := 9) (t := 5) (v := nI 10) (fun _ => rfl) hM.2.2.1.2 rfl dX1_formulaAt_9 ?_
  refine r_icmp_ge (pc := 10) (tgt := 22) dX1_formulaAt_10 (by decide) (fun h => absurd h (nI_ge9 hk (by decide))) (fun h10 => ?_)
  refine r_aload_n (pc := 13) dX1_formulaAt_13 rfl rfl ?_
  refine g_X1_11 (pc := 14) rfl hM.1.2 rfl dX1_formulaAt_14 ?_
  refine r_iload_n (pc := 17) dX1_formulaAt_17 rfl rfl ?_
  refine r_aaload (pc := 18) (t := 5) (fun _ => rfl) hM.2.2.1.2 (vp_in_nI (n := k) hk (Nat.le_of_ble_eq_true rfl)) dX1_formulaAt_18 ?_
  rw [nI_clamp (by omega)]
  refine r_goto (pc := 19) (tgt := 23) dX1_formulaAt_19 (by decide) ?_
  refine r_aret (pc := 23) rfl (Or.inl ⟨_, rfl⟩) (va_rf_or _) dX1_formulaAt_23 ?_
  exact ⟨rfl, rfl⟩

set_option maxRecDepth 100000 in
set_option maxHeartbeats 4000000 in
theorem ac_formulaAtN {G : aw_G} {ow : Nat → Nat} {w : List va_E} {t a y q o h : Nat} {ty : Nat → Int32} {R6 : Nat → List Int32} {gd : Nat → Option Nat} (hM : FM ow w t a y q o h ty R6 gd)  : AM G fX1_formulaAt [.ref a, .int (-1)] w (qx (.inl (some .null)) w) := by
  refine AM_of (by decide) rfl rfl (Nat.le_of_ble_eq_true rfl) ?_
  show AW G fX1_formulaAt 0 0 w 0 [some (.ref a), some (.int (-1))] [] _
  refine r_iload_n (pc := 0) dX1_formulaAt_0 rfl rfl ?_
  refine r_if_lt (pc := 1) (tgt := 22) dX1_formulaAt_1 (by decide) (fun _ => ?_) (fun h => absurd h (by decide))
  refine r_null (pc := 22) dX1_formulaAt_22 ?_
  refine r_aret (pc := 23) rfl (Or.inl ⟨_, rfl⟩) (Or.inl rfl) dX1_formulaAt_23 ?_
  exact ⟨rfl, rfl⟩

set_option maxRecDepth 100000 in
set_option maxHeartbeats 4000000 in
theorem ac_giveFormula {G : aw_G} {ow : Nat → Nat} {w : List va_E} {t a y q o h : Nat} {ty : Nat → Int32} {R6 : Nat → List Int32} {gd : Nat → Option Nat} (hM : FM ow w t a y q o h ty R6 gd) {k f : Nat} {vs : List Value} (hk : k < 10) (hf : w[f]? = some (.inr (2, vs))) : AM G fX1_giveFormula [.ref a, .int (nI k), .ref f] w (qx (.inl none) (w.set o (.inl (5, 10, .inr (.inr (.inr (.inr (va_up gd k (some f))))))))) := by
  refine AM_of (by decide) rfl rfl (Nat.le_of_ble_eq_true rfl) ?_
  show AW G fX1_giveFormula 0 0 w 0 [some (.ref a), some (.int (nI k)), some (.ref f)] [] _
  refine r_iload_n (pc := 0) dX1_giveFormula_0 rfl rfl ?_
  refine r_if_lt (pc := 1) (tgt := 20) dX1_giveFormula_1 (by decide) (fun h => absurd h (nI_pos (by omega))) (fun h1 => ?_)
  refine r_iload_n (pc := 4) dX1_giveFormula_4 rfl rfl ?_
  refine r_aload_n (pc := 5) dX1_giveFormula_5 rfl rfl ?_
  refine g_X1_11 (pc := 6) rfl hM.1.2 rfl dX1_giveFormula_6 ?_
  refine r_alen (pc := 9) (t := 5) (v := nI 10) (fun _ => rfl) hM.2.2.1.2 rfl dX1_giveFormula_9 ?_
  refine r_icmp_ge (pc := 10) (tgt := 20) dX1_giveFormula_10 (by decide) (fun h => absurd h (nI_ge9 hk (by decide))) (fun h10 => ?_)
  refine r_aload_n (pc := 13) dX1_giveFormula_13 rfl rfl ?_
  refine g_X1_11 (pc := 14) rfl hM.1.2 rfl dX1_giveFormula_14 ?_
  refine r_iload_n (pc := 17) dX1_giveFormula_17 rfl rfl ?_
  refine r_aload_n (pc := 18) dX1_giveFormula_18 rfl rfl ?_
  refine r_aastore (pc := 19) (t := 5) (ci := 2) (fun _ => rfl) hM.2.2.1.2 hf rfl (vp_in_nI hk (Nat.le_of_ble_eq_true rfl)) dX1_giveFormula_19 (by rw [nI_clamp (by omega)]) ?_
  refine r_vret (pc := 20) rfl dX1_giveFormula_20 ?_
  exact ⟨rfl, rfl⟩

set_option maxRecDepth 100000 in
set_option maxHeartbeats 4000000 in
theorem ac_giveFormulaN {G : aw_G} {ow : Nat → Nat} {w : List va_E} {t a y q o h : Nat} {ty : Nat → Int32} {R6 : Nat → List Int32} {gd : Nat → Option Nat} (hM : FM ow w t a y q o h ty R6 gd) {k : Nat} (hk : k < 10) : AM G fX1_giveFormula [.ref a, .int (nI k), .null] w (qx (.inl none) (w.set o (.inl (5, 10, .inr (.inr (.inr (.inr (va_up gd k none)))))))) := by
  refine AM_of (by decide) rfl rfl (Nat.le_of_ble_eq_true rfl) ?_
  show AW G fX1_giveFormula 0 0 w 0 [some (.ref a), some (.int (nI k)), some (.null)] [] _
  refine r_iload_n (pc := 0) dX1_giveFormula_0 rfl rfl ?_
  refine r_if_lt (pc := 1) (tgt := 20) dX1_giveFormula_1 (by decide) (fun h => absurd h (nI_pos (by omega))) (fun h1 => ?_)
  refine r_iload_n (pc := 4) dX1_giveFormula_4 rfl rfl ?_
  refine r_aload_n (pc := 5) dX1_giveFormula_5 rfl rfl ?_
  refine g_X1_11 (pc := 6) rfl hM.1.2 rfl dX1_giveFormula_6 ?_
  refine r_alen (pc := 9) (t := 5) (v := nI 10) (fun _ => rfl) hM.2.2.1.2 rfl dX1_giveFormula_9 ?_
  refine r_icmp_ge (pc := 10) (tgt := 20) dX1_giveFormula_10 (by decide) (fun h => absurd h (nI_ge9 hk (by decide))) (fun h10 => ?_)
  refine r_aload_n (pc := 13) dX1_giveFormula_13 rfl rfl ?_
  refine g_X1_11 (pc := 14) rfl hM.1.2 rfl dX1_giveFormula_14 ?_
  refine r_iload_n (pc := 17) dX1_giveFormula_17 rfl rfl ?_
  refine r_aload_nN (pc := 18) dX1_giveFormula_18 rfl rfl ?_
  refine r_aastoreN (pc := 19) (t := 5) (fun _ => rfl) hM.2.2.1.2 (vp_in_nI hk (Nat.le_of_ble_eq_true rfl)) dX1_giveFormula_19 (by rw [nI_clamp (by omega)]) ?_
  refine r_vret (pc := 20) rfl dX1_giveFormula_20 ?_
  exact ⟨rfl, rfl⟩

set_option maxRecDepth 100000 in
set_option maxHeartbeats 4000000 in
theorem ac_isComputed {G : aw_G} {ow : Nat → Nat} {w : List va_E} {t a y q o h : Nat} {ty : Nat → Int32} {R6 : Nat → List Int32} {gd : Nat → Option Nat} (hM : FM ow w t a y q o h ty R6 gd) {k : Nat} (hk6 : k < 6) : AM G fX1_isComputed [.ref a, .int (nI k)] w (qx (.inl (some (.int (bi (decide (R6 k ≠ [])))))) w) := by
  refine AM_of (by decide) rfl rfl (Nat.le_of_ble_eq_true rfl) ?_
  show AW G fX1_isComputed 0 0 w 0 [some (.ref a), some (.int (nI k))] [] _
  have hk : k < 10 := by omega
  refine r_iload_n (pc := 0) dX1_isComputed_0 rfl rfl ?_
  refine r_bipush (pc := 1) (v := 6) dX1_isComputed_1 (by decide) ?_
  refine r_icmp_ge (pc := 3) (tgt := 18) dX1_isComputed_3 (by decide) (fun h => absurd h (nI_ge9 hk6 (by decide))) (fun h3 => ?_)
  refine r_aload_n (pc := 6) dX1_isComputed_6 rfl rfl ?_
  refine r_iload_n (pc := 7) dX1_isComputed_7 rfl rfl ?_
  refine s_X1_38 (pc := 8) (kc' := 0) (ks' := 0) rfl rfl (ac_formulaAt hM hk) hM.1.2 (Nat.le_of_ble_eq_true rfl) (Nat.le_of_ble_eq_true rfl) (Nat.le_of_ble_eq_true rfl) (Nat.le_of_ble_eq_true rfl) (by exact (Nat.le_of_ble_eq_true rfl)) rfl (List.forall_mem_cons.mpr ⟨rfl, (List.forall_mem_cons.mpr ⟨rfl, fun _ h => nomatch h⟩)⟩) rfl dX1_isComputed_8 aw_kt (aw_kq ?_)
  have hO := FO_none (hM.2.2.2.1 k hk)
  cases hg : gd k with
  | none =>
    rw [hg] at hO
    rw [show decide (R6 k ≠ []) = false from decide_eq_false (fun z => z (hO.mpr rfl))]
    refine r_ifnullN (pc := 11) (tgt := 18) dX1_isComputed_11 (by decide) ?_
    refine r_iconst (pc := 18) (v := 0) dX1_isComputed_18 (by decide) ?_
    refine r_iret (pc := 19) rfl rfl dX1_isComputed_19 ?_
    exact ⟨rfl, rfl⟩
  | some x =>
    rw [hg] at hO
    rw [show decide (R6 k ≠ []) = true from decide_eq_true (fun z => by cases hO.mp z)]
    refine r_ifnull (pc := 11) dX1_isComputed_11 ?_
    refine r_iconst (pc := 14) (v := 1) dX1_isComputed_14 (by decide) ?_
    refine r_goto (pc := 15) (tgt := 19) dX1_isComputed_15 (by decide) ?_
    refine r_iret (pc := 19) rfl rfl dX1_isComputed_19 ?_
    exact ⟨rfl, rfl⟩

set_option maxRecDepth 100000 in
set_option maxHeartbeats 4000000 in
theorem ac_typeOfFormula {G : aw_G} {ow : Nat → Nat} {w : List va_E} {t a y q o h : Nat} {ty : Nat → Int32} {R6 : Nat → List Int32} {gd : Nat → Option Nat} (hM : FM ow w t a y q o h ty R6 gd) (ht : t ≠ 1) {f : Nat} {row : List Int32} (hF : FP ow w f row) : AM G fX1_typeOfFormula [.ref a, .ref f] w (qs ow w (tyV ty row)) := by
  refine AM_of (by decide) rfl rfl (Nat.le_of_ble_eq_true rfl) ?_
  show AW G fX1_typeOfFormula 0 0 w 0 [some (.ref a), some (.ref f)] [] _
  refine r_aload_n (pc := 0) dX1_typeOfFormula_0 rfl rfl ?_
  refine r_aload_n (pc := 1) dX1_typeOfFormula_1 rfl rfl ?_
  refine g_X1_26 (pc := 2) rfl hM.1.2 rfl dX1_typeOfFormula_2 ?_
  refine s_X1_42 (pc := 5) (kc' := 0) (ks' := 0) rfl rfl (ac5_rd hF hM.2.1 ht) hF.2.2.2.1.2 (Nat.le_of_ble_eq_true rfl) (Nat.le_of_ble_eq_true rfl) (Nat.le_of_ble_eq_true rfl) (Nat.le_of_ble_eq_true rfl) (by exact (Nat.le_of_ble_eq_true rfl)) rfl (List.forall_mem_cons.mpr ⟨rfl, (List.forall_mem_cons.mpr ⟨rfl, fun _ h => nomatch h⟩)⟩) rfl dX1_typeOfFormula_5 aw_ts (aw_ks (fun w1 hk1 => ?_))
  refine r_iret (pc := 8) rfl rfl dX1_typeOfFormula_8 ?_
  exact ⟨rfl, hk1⟩

set_option maxRecDepth 100000 in
set_option maxHeartbeats 4000000 in
theorem ac_wouldBreak {G : aw_G} {ow : Nat → Nat} {w : List va_E} {t a y q o h : Nat} {ty : Nat → Int32} {R6 : Nat → List Int32} {gd : Nat → Option Nat} (hM : FM ow w t a y q o h ty R6 gd) (ht : t ≠ 1) {k : Nat} (hk : k < 10) {f : Nat} {row : List Int32} (hF : FP ow w f row) : AM G fX1_wouldBreak [.ref a, .int (nI k), .ref f] w (qs ow w (bi (decide (tyV ty row ≠ dueF ty k)))) := by
  refine AM_of (by decide) rfl rfl (Nat.le_of_ble_eq_true rfl) ?_
  show AW G fX1_wouldBreak 0 0 w 0 [some (.ref a), some (.int (nI k)), some (.ref f), none] [] _
  refine r_iload_n (pc := 0) dX1_wouldBreak_0 rfl rfl ?_
  refine r_bipush (pc := 1) (v := 6) dX1_wouldBreak_1 (by decide) ?_
  refine r_icmp_ge (pc := 3) (tgt := 17) dX1_wouldBreak_3 (by decide) (fun h3 => ?_) (fun h3 => ?_)
  · have hk6 : ¬ k < 6 := fun z => nI_ge9 (b := 6) z (by decide) h3
    refine r_iconst (pc := 17) (v := 2) dX1_wouldBreak_17 (by decide) ?_
    refine r_istore_n (pc := 18) dX1_wouldBreak_18 rfl (Nat.le_of_ble_eq_true rfl) rfl ?_
    refine r_aload_n (pc := 19) dX1_wouldBreak_19 rfl rfl ?_
    refine r_aload_n (pc := 20) dX1_wouldBreak_20 rfl rfl ?_
    refine s_X1_46 (pc := 21) (kc' := 0) (ks' := 0) rfl rfl (ac_typeOfFormula hM ht hF) hM.1.2 (Nat.le_of_ble_eq_true rfl) (Nat.le_of_ble_eq_true rfl) (Nat.le_of_ble_eq_true rfl) (Nat.le_of_ble_eq_true rfl) (by exact (Nat.le_of_ble_eq_true rfl)) rfl (List.forall_mem_cons.mpr ⟨rfl, (List.forall_mem_cons.mpr ⟨rfl, fun _ h => nomatch h⟩)⟩) rfl dX1_wouldBreak_21 aw_ts (aw_ks (fun w1 hk1 => ?_))
    refine r_iload_n (pc := 24) dX1_wouldBreak_24 rfl rfl ?_
    refine r_icmp_eq (pc := 25) (tgt := 32) dX1_wouldBreak_25 (by decide) (fun h25 => ?_) (fun h25 => ?_)
    · refine r_iconst (pc := 32) (v := 0) dX1_wouldBreak_32 (by decide) ?_
      refine r_iret (pc := 33) rfl rfl dX1_wouldBreak_33 ?_
      have h9 : tyV ty row = dueF ty k := by
        rw [dueF, if_neg hk6]
        exact h25
      exact ⟨by rw [show decide (tyV ty row ≠ dueF ty k) = false from decide_eq_false (fun z => z h9)]; rfl, hk1⟩
    · refine r_iconst (pc := 28) (v := 1) dX1_wouldBreak_28 (by decide) ?_
      refine r_goto (pc := 29) (tgt := 33) dX1_wouldBreak_29 (by decide) ?_
      refine r_iret (pc := 33) rfl rfl dX1_wouldBreak_33 ?_
      have h9 : tyV ty row ≠ dueF ty k := by
        rw [dueF, if_neg hk6]
        exact h25
      exact ⟨by rw [show decide (tyV ty row ≠ dueF ty k) = true from decide_eq_true h9]; rfl, hk1⟩
  · have hk6 : k < 6 := nI_lt9 (by omega) h3
    obtain ⟨td, hd, hde⟩ := hM.2.1.2
    refine r_aload_n (pc := 6) dX1_wouldBreak_6 rfl rfl ?_
    refine g_X1_26 (pc := 7) rfl hM.1.2 rfl dX1_wouldBreak_7 ?_
    refine r_iload_n (pc := 10) dX1_wouldBreak_10 rfl rfl ?_
    refine s_X1_30 (pc := 11) (kc' := 0) (ks' := 0) rfl rfl (ac5_at hM.2.1.1.2 hd.2 hk6) hM.2.1.1.2 (Nat.le_of_ble_eq_true rfl) (Nat.le_of_ble_eq_true rfl) (Nat.le_of_ble_eq_true rfl) (Nat.le_of_ble_eq_true rfl) (by exact (Nat.le_of_ble_eq_true rfl)) rfl (List.forall_mem_cons.mpr ⟨rfl, (List.forall_mem_cons.mpr ⟨rfl, fun _ h => nomatch h⟩)⟩) rfl dX1_wouldBreak_11 aw_kt (aw_kq ?_)
    refine r_goto (pc := 14) (tgt := 18) dX1_wouldBreak_14 (by decide) ?_
    refine r_istore_n (pc := 18) dX1_wouldBreak_18 rfl (Nat.le_of_ble_eq_true rfl) rfl ?_
    refine r_aload_n (pc := 19) dX1_wouldBreak_19 rfl rfl ?_
    refine r_aload_n (pc := 20) dX1_wouldBreak_20 rfl rfl ?_
    refine s_X1_46 (pc := 21) (kc' := 0) (ks' := 0) rfl rfl (ac_typeOfFormula hM ht hF) hM.1.2 (Nat.le_of_ble_eq_true rfl) (Nat.le_of_ble_eq_true rfl) (Nat.le_of_ble_eq_true rfl) (Nat.le_of_ble_eq_true rfl) (by exact (Nat.le_of_ble_eq_true rfl)) rfl (List.forall_mem_cons.mpr ⟨rfl, (List.forall_mem_cons.mpr ⟨rfl, fun _ h => nomatch h⟩)⟩) rfl dX1_wouldBreak_21 aw_ts (aw_ks (fun w1 hk1 => ?_))
    refine r_iload_n (pc := 24) dX1_wouldBreak_24 rfl rfl ?_
    refine r_icmp_eq (pc := 25) (tgt := 32) dX1_wouldBreak_25 (by decide) (fun h25 => ?_) (fun h25 => ?_)
    · refine r_iconst (pc := 32) (v := 0) dX1_wouldBreak_32 (by decide) ?_
      refine r_iret (pc := 33) rfl rfl dX1_wouldBreak_33 ?_
      have h9 : tyV ty row = dueF ty k := by
        rw [dueF, if_pos hk6]
        exact h25.trans (hde k hk6)
      exact ⟨by rw [show decide (tyV ty row ≠ dueF ty k) = false from decide_eq_false (fun z => z h9)]; rfl, hk1⟩
    · refine r_iconst (pc := 28) (v := 1) dX1_wouldBreak_28 (by decide) ?_
      refine r_goto (pc := 29) (tgt := 33) dX1_wouldBreak_29 (by decide) ?_
      refine r_iret (pc := 33) rfl rfl dX1_wouldBreak_33 ?_
      have h9 : tyV ty row ≠ dueF ty k := by
        rw [dueF, if_pos hk6]
        rw [← hde k hk6]
        exact h25
      exact ⟨by rw [show decide (tyV ty row ≠ dueF ty k) = true from decide_eq_true h9]; rfl, hk1⟩

set_option maxRecDepth 100000 in
set_option maxHeartbeats 4000000 in
theorem ac_hasBroken {G : aw_G} {ow : Nat → Nat} {w : List va_E} {t a y q o h : Nat} {ty : Nat → Int32} {R6 : Nat → List Int32} {gd : Nat → Option Nat} (hM : FM ow w t a y q o h ty R6 gd) (ht : t ≠ 1) {k : Nat} (hk : k < 10) : AM G fX1_hasBroken [.ref a, .int (nI k)] w (qs ow w (bi (brkF ty (R6 k) k))) := by
  refine AM_of (by decide) rfl rfl (Nat.le_of_ble_eq_true rfl) ?_
  show AW G fX1_hasBroken 0 0 w 0 [some (.ref a), some (.int (nI k)), none] [] _
  refine r_aload_n (pc := 0) dX1_hasBroken_0 rfl rfl ?_
  refine r_iload_n (pc := 1) dX1_hasBroken_1 rfl rfl ?_
  refine s_X1_38 (pc := 2) (kc' := 0) (ks' := 0) rfl rfl (ac_formulaAt hM hk) hM.1.2 (Nat.le_of_ble_eq_true rfl) (Nat.le_of_ble_eq_true rfl) (Nat.le_of_ble_eq_true rfl) (Nat.le_of_ble_eq_true rfl) (by exact (Nat.le_of_ble_eq_true rfl)) rfl (List.forall_mem_cons.mpr ⟨rfl, (List.forall_mem_cons.mpr ⟨rfl, fun _ h => nomatch h⟩)⟩) rfl dX1_hasBroken_2 aw_kt (aw_kq ?_)
  have hO := hM.2.2.2.1 k hk
  cases hg : gd k with
  | none =>
    rw [hg] at hO
    refine r_astore_nN (pc := 5) dX1_hasBroken_5 rfl (Nat.le_of_ble_eq_true rfl) rfl ?_
    refine r_aload_nN (pc := 6) dX1_hasBroken_6 rfl rfl ?_
    refine r_ifnullN (pc := 7) (tgt := 23) dX1_hasBroken_7 (by decide) ?_
    refine r_iconst (pc := 23) (v := 0) dX1_hasBroken_23 (by decide) ?_
    refine r_iret (pc := 24) rfl rfl dX1_hasBroken_24 ?_
    exact ⟨by rw [show brkF ty (R6 k) k = false from decide_eq_false (fun z => z.1 hO)]; rfl, kp_rf⟩
  | some f =>
    rw [hg] at hO
    refine r_astore_n (pc := 5) dX1_hasBroken_5 rfl (Nat.le_of_ble_eq_true rfl) rfl ?_
    refine r_aload_n (pc := 6) dX1_hasBroken_6 rfl rfl ?_
    refine r_ifnull (pc := 7) dX1_hasBroken_7 ?_
    refine r_aload_n (pc := 10) dX1_hasBroken_10 rfl rfl ?_
    refine r_iload_n (pc := 11) dX1_hasBroken_11 rfl rfl ?_
    refine r_aload_n (pc := 12) dX1_hasBroken_12 rfl rfl ?_
    refine s_X1_50 (pc := 13) (kc' := 0) (ks' := 0) rfl rfl (ac_wouldBreak hM ht hk hO) hM.1.2 (Nat.le_of_ble_eq_true rfl) (Nat.le_of_ble_eq_true rfl) (Nat.le_of_ble_eq_true rfl) (Nat.le_of_ble_eq_true rfl) (by exact (Nat.le_of_ble_eq_true rfl)) rfl (List.forall_mem_cons.mpr ⟨rfl, (List.forall_mem_cons.mpr ⟨rfl, (List.forall_mem_cons.mpr ⟨rfl, fun _ h => nomatch h⟩)⟩)⟩) rfl dX1_hasBroken_13 aw_ts (aw_ks (fun w1 hk1 => ?_))
    refine r_if_eq (pc := 16) (tgt := 23) dX1_hasBroken_16 (by decide) (fun h16 => ?_) (fun h16 => ?_)
    · refine r_iconst (pc := 23) (v := 0) dX1_hasBroken_23 (by decide) ?_
      refine r_iret (pc := 24) rfl rfl dX1_hasBroken_24 ?_
      exact ⟨by rw [show brkF ty (R6 k) k = false from decide_eq_false (fun z => absurd (decide_eq_true z.2) (by rw [bi_eq.mp h16]; decide))]; rfl, hk1⟩
    · refine r_iconst (pc := 19) (v := 1) dX1_hasBroken_19 (by decide) ?_
      refine r_goto (pc := 20) (tgt := 24) dX1_hasBroken_20 (by decide) ?_
      refine r_iret (pc := 24) rfl rfl dX1_hasBroken_24 ?_
      exact ⟨by rw [show brkF ty (R6 k) k = true from decide_eq_true ⟨wfr_ne hO.1, of_decide_eq_true (bi_ne.mp h16)⟩]; rfl, hk1⟩

set_option maxRecDepth 100000 in
set_option maxHeartbeats 4000000 in
theorem ac_lettersAt {G : aw_G} {ow : Nat → Nat} {w : List va_E} {t a y q o h : Nat} {ty : Nat → Int32} {R6 : Nat → List Int32} {gd : Nat → Option Nat} (hM : FM ow w t a y q o h ty R6 gd) {k : Nat} (hk : k < 10) : AM G fX1_lettersAt [.ref a, .int (nI k)] w (qx (.inl (some (.int (msk 0 (R6 k))))) w) := by
  refine AM_of (by decide) rfl rfl (Nat.le_of_ble_eq_true rfl) ?_
  show AW G fX1_lettersAt 0 0 w 0 [some (.ref a), some (.int (nI k)), none] [] _
  refine r_aload_n (pc := 0) dX1_lettersAt_0 rfl rfl ?_
  refine r_iload_n (pc := 1) dX1_lettersAt_1 rfl rfl ?_
  refine s_X1_38 (pc := 2) (kc' := 0) (ks' := 0) rfl rfl (ac_formulaAt hM hk) hM.1.2 (Nat.le_of_ble_eq_true rfl) (Nat.le_of_ble_eq_true rfl) (Nat.le_of_ble_eq_true rfl) (Nat.le_of_ble_eq_true rfl) (by exact (Nat.le_of_ble_eq_true rfl)) rfl (List.forall_mem_cons.mpr ⟨rfl, (List.forall_mem_cons.mpr ⟨rfl, fun _ h => nomatch h⟩)⟩) rfl dX1_lettersAt_2 aw_kt (aw_kq ?_)
  have hO := hM.2.2.2.1 k hk
  cases hg : gd k with
  | none =>
    rw [hg] at hO
    refine r_astore_nN (pc := 5) dX1_lettersAt_5 rfl (Nat.le_of_ble_eq_true rfl) rfl ?_
    refine r_aload_nN (pc := 6) dX1_lettersAt_6 rfl rfl ?_
    refine r_ifnonnullN (pc := 7) dX1_lettersAt_7 ?_
    refine r_iconst (pc := 10) (v := 0) dX1_lettersAt_10 (by decide) ?_
    refine r_goto (pc := 11) (tgt := 18) dX1_lettersAt_11 (by decide) ?_
    refine r_iret (pc := 18) rfl rfl dX1_lettersAt_18 ?_
    exact ⟨by rw [show R6 k = [] from hO]; rfl, rfl⟩
  | some f =>
    rw [hg] at hO
    refine r_astore_n (pc := 5) dX1_lettersAt_5 rfl (Nat.le_of_ble_eq_true rfl) rfl ?_
    refine r_aload_n (pc := 6) dX1_lettersAt_6 rfl rfl ?_
    refine r_ifnonnull (pc := 7) (tgt := 14) dX1_lettersAt_7 (by decide) ?_
    refine r_aload_n (pc := 14) dX1_lettersAt_14 rfl rfl ?_
    refine s_X1_58 (pc := 15) (kc' := 0) (ks' := 0) rfl rfl (ac_letterSet (m := 0) (pl := fun _ => 0) hO.2.2.2.1.2) hO.2.2.2.1.2 (Nat.le_of_ble_eq_true rfl) (Nat.le_of_ble_eq_true rfl) (Nat.le_of_ble_eq_true rfl) (Nat.le_of_ble_eq_true rfl) (by exact (Nat.le_of_ble_eq_true rfl)) rfl (List.forall_mem_cons.mpr ⟨rfl, fun _ h => nomatch h⟩) rfl dX1_lettersAt_15 aw_kt (aw_kq ?_)
    refine r_iret (pc := 18) rfl rfl dX1_lettersAt_18 ?_
    exact ⟨rfl, rfl⟩

set_option maxRecDepth 100000 in
set_option maxHeartbeats 4000000 in
theorem ac_toldAt {G : aw_G} {ow : Nat → Nat} {w : List va_E} {t a y q o h : Nat} {ty : Nat → Int32} {R6 : Nat → List Int32} {gd : Nat → Option Nat} (hM : FM ow w t a y q o h ty R6 gd) {L : List Nat} (hH : HD ow w t h L) (hL : L.length ≤ 6) {x : Int32} (hx : 0 ≤ x) : AM G fX1_toldAt [.ref a, .int x] w (qx (.inl (some (.int (((L[x.toNatClampNeg]?).map nI).getD (-1))))) w) := by
  refine AM_of (by decide) rfl rfl (Nat.le_of_ble_eq_true rfl) ?_
  show AW G fX1_toldAt 0 0 w 0 [some (.ref a), some (.int x)] [] _
  obtain ⟨td, htd, hte⟩ := hH
  refine r_iload_n (pc := 0) dX1_toldAt_0 rfl rfl ?_
  refine r_if_lt (pc := 1) (tgt := 22) dX1_toldAt_1 (by decide) (fun h => absurd h (Int32.not_lt.mpr hx)) (fun h1 => ?_)
  obtain ⟨j, hj, rfl⟩ := nI_of (Int32.not_lt.mpr hx)
  rw [nI_clamp hj]
  refine r_iload_n (pc := 4) dX1_toldAt_4 rfl rfl ?_
  refine r_aload_n (pc := 5) dX1_toldAt_5 rfl rfl ?_
  refine g_X1_17 (pc := 6) rfl hM.1.2 rfl dX1_toldAt_6 ?_
  refine r_alen (pc := 9) (t := 0) (v := nI 6) (fun _ => rfl) htd.2 rfl dX1_toldAt_9 ?_
  refine r_icmp_ge (pc := 10) (tgt := 22) dX1_toldAt_10 (by decide) (fun h10 => ?_) (fun h10 => ?_)
  · refine r_iconst (pc := 22) (v := -1) dX1_toldAt_22 (by decide) ?_
    refine r_iret (pc := 23) rfl rfl dX1_toldAt_23 ?_
    have hj6 : 6 ≤ j := (nI_leI (b := j) (by decide) hj).mp h10
    exact ⟨by rw [List.getElem?_eq_none (by omega)]; rfl, rfl⟩
  · have hj6 : j < 6 := Nat.lt_of_not_le (fun z => h10 (nI_le z hj))
    refine r_aload_n (pc := 13) dX1_toldAt_13 rfl rfl ?_
    refine g_X1_17 (pc := 14) rfl hM.1.2 rfl dX1_toldAt_14 ?_
    refine r_iload_n (pc := 17) dX1_toldAt_17 rfl rfl ?_
    refine r_iaload (pc := 18) htd.2 (vp_in_nI (n := j) hj6 (Nat.le_of_ble_eq_true rfl)) dX1_toldAt_18 ?_
    rw [nI_clamp (by omega)]
    refine r_goto (pc := 19) (tgt := 23) dX1_toldAt_19 (by decide) ?_
    refine r_iret (pc := 23) rfl rfl dX1_toldAt_23 ?_
    exact ⟨by rw [hte j hj6], rfl⟩

end S20
