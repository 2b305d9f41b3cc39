/-! ===== the class: an Answer: countMissing, refusingCheck, judge, meetVersion ===== -/
section S26
set_option maxRecDepth 100000 in
set_option maxHeartbeats 4000000 in
theorem cm_loop {G : aw_G} {ow : Nat → Nat} {w : List va_E} {t b v fa : Nat} {st db : Int32} {vl hs : Nat → Int32} (hA : AN ow w t b v fa st db vl hs) {tf fy fq fo fh : Nat} {ty : Nat → Int32} {R6 : Nat → List Int32} {gd : Nat → Option Nat} (hM : FM ow w tf fa fy fq fo fh ty R6 gd) (v9 : Nat) : ∀ (m k c : Nat), k + m = 6 → c + cntU (fun f => (decide (ty f ≠ 0) && decide (R6 f = [])) && decide (hs f = 0)) k m = v9 → AW G fX0_countMissing 0 0 w 4 [some (.ref b), some (.int (nI c)), some (.int (nI k))] [] (qx (.inl (some (.int (nI v9)))) w) := by
  intro m
  induction m with
  | zero =>
    intro k c hk hv
    refine r_iload_n (pc := 4) dX0_countMissing_4 rfl rfl ?_
    refine r_bipush (pc := 5) (v := 6) dX0_countMissing_5 (by decide) ?_
    refine r_icmp_ge (pc := 7) (tgt := 35) dX0_countMissing_7 (by decide) (fun h7 => ?_) (fun h => absurd (by rw [show k = 6 by omega]; decide) h)
    refine r_iload_n (pc := 35) dX0_countMissing_35 rfl rfl ?_
    refine r_iret (pc := 36) rfl rfl dX0_countMissing_36 ?_
    exact ⟨by rw [← hv]; rfl, rfl⟩
  | succ m ih =>
    intro k c hkm hv
    have hk : k < 6 := by omega
    refine r_iload_n (pc := 4) dX0_countMissing_4 rfl rfl ?_
    refine r_bipush (pc := 5) (v := 6) dX0_countMissing_5 (by decide) ?_
    refine r_icmp_ge (pc := 7) (tgt := 35) dX0_countMissing_7 (by decide) (fun h => absurd h (nI_ge9 hk (by decide))) (fun h7 => ?_)
    refine r_aload_n (pc := 10) dX0_countMissing_10 rfl rfl ?_
    refine r_iload_n (pc := 11) dX0_countMissing_11 rfl rfl ?_
    refine s_X0_59 (pc := 12) (kc' := 0) (ks' := 0) rfl rfl (aa_isPutField hA hM hk) hA.1.2 (Nat.le_of_ble_eq_true rfl) (Nat.le_of_ble_eq_true rfl) (Nat.le_of_ble_eq_true rfl) (Nat.le_of_ble_eq_true rfl) (by exact (Nat.le_of_ble_eq_true rfl)) rfl (List.forall_mem_cons.mpr ⟨rfl, (List.forall_mem_cons.mpr ⟨rfl, fun _ h => nomatch h⟩)⟩) rfl dX0_countMissing_12 aw_kt (aw_kq ?_)
    refine r_if_eq (pc := 15) (tgt := 29) dX0_countMissing_15 (by decide) (fun h15 => ?_) (fun h15 => ?_)
    · refine r_iincK (pc := 29) (k9 := 1) dX0_countMissing_29 (by decide) rfl (Nat.le_of_ble_eq_true rfl) rfl ?_
      refine r_goto (pc := 32) (tgt := 4) dX0_countMissing_32 (by decide) ?_
      have hb : ((decide (ty k ≠ 0) && decide (R6 k = [])) && decide (hs k = 0)) = false := by rw [bi_eq.mp h15, Bool.false_and]
      rw [nI_1]
      refine ih (k + 1) (c) (by omega) (by rw [← hv, cntU, hb]; simp <;> omega)
    · refine r_aload_n (pc := 18) dX0_countMissing_18 rfl rfl ?_
      refine r_iload_n (pc := 19) dX0_countMissing_19 rfl rfl ?_
      refine s_X0_62 (pc := 20) (kc' := 0) (ks' := 0) rfl rfl (aa_hasValue hA hk) hA.1.2 (Nat.le_of_ble_eq_true rfl) (Nat.le_of_ble_eq_true rfl) (Nat.le_of_ble_eq_true rfl) (Nat.le_of_ble_eq_true rfl) (by exact (Nat.le_of_ble_eq_true rfl)) rfl (List.forall_mem_cons.mpr ⟨rfl, (List.forall_mem_cons.mpr ⟨rfl, fun _ h => nomatch h⟩)⟩) rfl dX0_countMissing_20 aw_kt (aw_kq ?_)
      refine r_if_ne (pc := 23) (tgt := 29) dX0_countMissing_23 (by decide) (fun h23 => ?_) (fun h23 => ?_)
      · refine r_iincK (pc := 29) (k9 := 1) dX0_countMissing_29 (by decide) rfl (Nat.le_of_ble_eq_true rfl) rfl ?_
        refine r_goto (pc := 32) (tgt := 4) dX0_countMissing_32 (by decide) ?_
        have hb : ((decide (ty k ≠ 0) && decide (R6 k = [])) && decide (hs k = 0)) = false := by rw [decide_eq_false h23, Bool.and_false]
        rw [nI_1]
        refine ih (k + 1) (c) (by omega) (by rw [← hv, cntU, hb]; simp <;> omega)
      · refine r_iincK (pc := 26) (k9 := 1) dX0_countMissing_26 (by decide) rfl (Nat.le_of_ble_eq_true rfl) rfl ?_
        refine r_iincK (pc := 29) (k9 := 1) dX0_countMissing_29 (by decide) rfl (Nat.le_of_ble_eq_true rfl) rfl ?_
        refine r_goto (pc := 32) (tgt := 4) dX0_countMissing_32 (by decide) ?_
        have hb : ((decide (ty k ≠ 0) && decide (R6 k = [])) && decide (hs k = 0)) = true := by rw [bi_ne.mp h15, decide_eq_true h23]; rfl
        rw [nI_1]
        rw [nI_1]
        refine ih (k + 1) (c + 1) (by omega) (by rw [← hv, cntU, hb]; simp <;> omega)
set_option maxRecDepth 100000 in
set_option maxHeartbeats 4000000 in
theorem aa_countMissing {G : aw_G} {ow : Nat → Nat} {w : List va_E} {t b v fa : Nat} {st db : Int32} {vl hs : Nat → Int32} (hA : AN ow w t b v fa st db vl hs) {tf fy fq fo fh : Nat} {ty : Nat → Int32} {R6 : Nat → List Int32} {gd : Nat → Option Nat} (hM : FM ow w tf fa fy fq fo fh ty R6 gd)  : AM G fX0_countMissing [.ref b] w (qx (.inl (some (.int (nI (cntU (fun f => (decide (ty f ≠ 0) && decide (R6 f = [])) && decide (hs f = 0)) 0 6))))) w) := by
  refine AM_of (by decide) rfl rfl (Nat.le_of_ble_eq_true rfl) ?_
  show AW G fX0_countMissing 0 0 w 0 [some (.ref b), none, none] [] _
  refine r_iconst (pc := 0) (v := 0) dX0_countMissing_0 (by decide) ?_
  refine r_istore_n (pc := 1) dX0_countMissing_1 rfl (Nat.le_of_ble_eq_true rfl) rfl ?_
  refine r_iconst (pc := 2) (v := 0) dX0_countMissing_2 (by decide) ?_
  refine r_istore_n (pc := 3) dX0_countMissing_3 rfl (Nat.le_of_ble_eq_true rfl) rfl ?_
  exact cm_loop hA hM _ 6 0 0 rfl (Nat.zero_add _)

set_option maxRecDepth 100000 in
set_option maxHeartbeats 4000000 in
theorem rc_loop {G : aw_G} {ow : Nat → Nat} {w : List va_E} {t b v fa : Nat} {st db : Int32} {vl hs : Nat → Int32} (hA0 : AN ow w t b v fa st db vl hs) {tf fy fq fo fh : Nat} {ty : Nat → Int32} {R6 : Nat → List Int32} {gd : Nat → Option Nat} (hM0 : FM ow w tf fa fy fq fo fh ty R6 gd) (ht : t ≠ 1) (htf : tf ≠ 1) (hT : ∀ k, k < 10 → R6 k ≠ [] → tyV ty (R6 k) ≠ -1) (hl : ∀ j, j < 6 → fl01 (ty j) (vl j)) (v9 : Int32) : ∀ (m k : Nat) (w1 : List va_E), kp ow ow [1] w w1 → k + m = 10 → refU vl R6 k m = v9 → AW G fX0_refusingCheck 0 0 w1 3 [some (.ref b), some (.int (nI k)), none] [] (qs ow w v9) := by
  intro m
  induction m with
  | zero =>
    intro k w1 hkw hk hv
    refine r_iload_n (pc := 3) dX0_refusingCheck_3 rfl rfl ?_
    refine r_bipush (pc := 4) (v := 10) dX0_refusingCheck_4 (by decide) ?_
    refine r_icmp_ge (pc := 6) (tgt := 41) dX0_refusingCheck_6 (by decide) (fun h6 => ?_) (fun h => absurd (by rw [show k = 10 by omega]; decide) h)
    refine r_iconst (pc := 41) (v := -1) dX0_refusingCheck_41 (by decide) ?_
    refine r_iret (pc := 42) rfl rfl dX0_refusingCheck_42 ?_
    exact ⟨by rw [← hv]; rfl, hkw⟩
  | succ m ih =>
    intro k w1 hkw hkm hv
    have hk : k < 10 := by omega
    have hA := AN_kp hA0 hkw (by simpa using ht)
    have hM := FM_kp hM0 hkw (by simpa using htf) (by decide)
    refine r_iload_n (pc := 3) dX0_refusingCheck_3 rfl rfl ?_
    refine r_bipush (pc := 4) (v := 10) dX0_refusingCheck_4 (by decide) ?_
    refine r_icmp_ge (pc := 6) (tgt := 41) dX0_refusingCheck_6 (by decide) (fun h => absurd h (nI_ge9 hk (by decide))) (fun h6 => ?_)
    refine r_aload_n (pc := 9) dX0_refusingCheck_9 rfl rfl ?_
    refine g_X0_28 (pc := 10) rfl hA.1.2 rfl dX0_refusingCheck_10 ?_
    refine r_iload_n (pc := 13) dX0_refusingCheck_13 rfl rfl ?_
    refine s_X0_68 (pc := 14) (kc' := 0) (ks' := 0) rfl rfl (ac_formulaAt hM hk) hM.1.2 (Nat.le_of_ble_eq_true rfl) (Nat.le_of_ble_eq_true rfl) (Nat.le_of_ble_eq_true rfl) (Nat.le_of_ble_eq_true rfl) (by exact (Nat.le_of_ble_eq_true rfl)) rfl (List.forall_mem_cons.mpr ⟨rfl, (List.forall_mem_cons.mpr ⟨rfl, fun _ h => nomatch h⟩)⟩) rfl dX0_refusingCheck_14 aw_kt (aw_kq ?_)
    have hO := hM.2.2.2.1 k hk
    cases hg : gd k with
    | none =>
      rw [hg] at hO
      refine r_astore_nN (pc := 17) dX0_refusingCheck_17 rfl (Nat.le_of_ble_eq_true rfl) rfl ?_
      refine r_aload_nN (pc := 18) dX0_refusingCheck_18 rfl rfl ?_
      refine r_ifnullN (pc := 19) (tgt := 35) dX0_refusingCheck_19 (by decide) ?_
      refine r_iincK (pc := 35) (k9 := 1) dX0_refusingCheck_35 (by decide) rfl (Nat.le_of_ble_eq_true rfl) rfl ?_
      refine r_goto (pc := 38) (tgt := 3) dX0_refusingCheck_38 (by decide) ?_
      refine AW_drop 2 rfl ?_
      rw [nI_1]
      exact ih (k + 1) w1 hkw (by omega) (by rw [← hv, refU, if_neg (fun z => z.1 hO)])
    | some f =>
      rw [hg] at hO
      refine r_astore_n (pc := 17) dX0_refusingCheck_17 rfl (Nat.le_of_ble_eq_true rfl) rfl ?_
      refine r_aload_n (pc := 18) dX0_refusingCheck_18 rfl rfl ?_
      refine r_ifnull (pc := 19) dX0_refusingCheck_19 ?_
      refine r_aload_n (pc := 22) dX0_refusingCheck_22 rfl rfl ?_
      refine r_aload_n (pc := 23) dX0_refusingCheck_23 rfl rfl ?_
      refine g_X0_12 (pc := 24) rfl hA.1.2 rfl dX0_refusingCheck_24 ?_
      refine s_X0_72 (pc := 27) (kc' := 0) (ks' := 0) rfl rfl (ac6_rd hO hA.2 ht (hT k hk (wfr_ne hO.1)) hl) hO.2.2.2.1.2 (Nat.le_of_ble_eq_true rfl) (Nat.le_of_ble_eq_true rfl) (Nat.le_of_ble_eq_true rfl) (Nat.le_of_ble_eq_true rfl) (by exact (Nat.le_of_ble_eq_true rfl)) rfl (List.forall_mem_cons.mpr ⟨rfl, (List.forall_mem_cons.mpr ⟨rfl, fun _ h => nomatch h⟩)⟩) rfl dX0_refusingCheck_27 aw_ts (aw_ks (fun w2 hk2 => ?_))
      refine r_if_ne (pc := 30) (tgt := 35) dX0_refusingCheck_30 (by decide) (fun h30 => ?_) (fun h30 => ?_)
      · refine r_iincK (pc := 35) (k9 := 1) dX0_refusingCheck_35 (by decide) rfl (Nat.le_of_ble_eq_true rfl) rfl ?_
        refine r_goto (pc := 38) (tgt := 3) dX0_refusingCheck_38 (by decide) ?_
        refine AW_drop 2 rfl ?_
        rw [nI_1]
        exact ih (k + 1) w2 (kp_tr hkw hk2) (by omega) (by rw [← hv, refU, if_neg (fun z => h30 z.2)])
      · refine r_iload_n (pc := 33) dX0_refusingCheck_33 rfl rfl ?_
        refine r_iret (pc := 34) rfl rfl dX0_refusingCheck_34 ?_
        exact ⟨by rw [← hv, refU, if_pos ⟨wfr_ne hO.1, h30⟩], kp_tr hkw hk2⟩
set_option maxRecDepth 100000 in
set_option maxHeartbeats 4000000 in
theorem aa_refusingCheck {G : aw_G} {ow : Nat → Nat} {w : List va_E} {t b v fa : Nat} {st db : Int32} {vl hs : Nat → Int32} (hA : AN ow w t b v fa st db vl hs) {tf fy fq fo fh : Nat} {ty : Nat → Int32} {R6 : Nat → List Int32} {gd : Nat → Option Nat} (hM : FM ow w tf fa fy fq fo fh ty R6 gd) (ht : t ≠ 1) (htf : tf ≠ 1) (hT : ∀ k, k < 10 → R6 k ≠ [] → tyV ty (R6 k) ≠ -1) (hl : ∀ j, j < 6 → fl01 (ty j) (vl j)) : AM G fX0_refusingCheck [.ref b] w (qs ow w (refU vl R6 6 4)) := by
  refine AM_of (by decide) rfl rfl (Nat.le_of_ble_eq_true rfl) ?_
  show AW G fX0_refusingCheck 0 0 w 0 [some (.ref b), none, none] [] _
  refine r_bipush (pc := 0) (v := 6) dX0_refusingCheck_0 (by decide) ?_
  refine r_istore_n (pc := 2) dX0_refusingCheck_2 rfl (Nat.le_of_ble_eq_true rfl) rfl ?_
  exact rc_loop hA hM ht htf hT hl _ 4 6 w kp_rf rfl rfl

def cmpC (R6 : Nat → List Int32) : List Nat → (Nat → Int32) → Nat → Int32
  | [], f => f
  | k :: l, f => cmpC R6 l (upd f k (vaV f (R6 k)))
def hasC : List Nat → (Nat → Int32) → Nat → Int32
  | [], f => f
  | k :: l, f => hasC l (upd f k 1)
def stC (r db : Int32) : Int32 := if r = -1 then (if db = 0 then 1 else 3) else 2
theorem upd_fl {ty vl : Nat → Int32} (hl : ∀ j, j < 6 → fl01 (ty j) (vl j)) {k : Nat} (hk : k < 6) {x : Int32} (hx : fl01 (ty k) x) : ∀ j, j < 6 → fl01 (ty j) (upd vl k x j) := by
  intro j hj
  by_cases e : j = k
  · subst e; rw [upd_s]; exact hx
  · rw [upd_n _ _ e]; exact hl j hj
set_option maxRecDepth 100000 in
set_option maxHeartbeats 4000000 in
theorem jd_loop {G : aw_G} {ow : Nat → Nat} {w : List va_E} {t b v fa : Nat} {st db : Int32} {tf fy fq fo fh : Nat} {ty : Nat → Int32} {R6 : Nat → List Int32} {gd : Nat → Option Nat} (hM0 : FM ow w tf fa fy fq fo fh ty R6 gd) (ht : t ≠ 1) (htf : tf ≠ 1) (htt : t ≠ tf) (ht0 : t ≠ 0) (hT : ∀ k, k < 10 → R6 k ≠ [] → tyV ty (R6 k) ≠ -1) (hfl : ∀ k, k < 6 → R6 k ≠ [] → ∀ vl : Nat → Int32, (∀ j, j < 6 → fl01 (ty j) (vl j)) → fl01 (ty k) (vaV vl (R6 k))) {L9 : List Nat} (hH0 : HD ow w tf fh L9) (hL6 : L9.length ≤ 6) (hLk : ∀ k ∈ L9, k < 6) (hLR : ∀ k ∈ L9, R6 k ≠ []) {vl2 hs2 : Nat → Int32} {Q : aw_R → List va_E → Prop} (kk : ∀ w', kp ow ow [1, t] w w' → AN ow w' t b v fa st db vl2 hs2 → (∀ j, j < 6 → fl01 (ty j) (vl2 j)) → AW G fX0_judge 0 0 w' 52 [some (.ref b), none, none, none] [] Q) : ∀ (m p : Nat) (l : List Nat) (w1 : List va_E) (vl1 hs1 : Nat → Int32), p + m = 6 → L9.drop p = l → kp ow ow [1, t] w w1 → AN ow w1 t b v fa st db vl1 hs1 → (∀ j, j < 6 → fl01 (ty j) (vl1 j)) → cmpC R6 l vl1 = vl2 → hasC l hs1 = hs2 → AW G fX0_judge 0 0 w1 2 [some (.ref b), some (.int (nI p)), none, none] [] Q := by
  intro m
  induction m with
  | zero =>
    intro p l w1 vl1 hs1 hpm hld hkw hA hl hcv hch
    refine r_iload_n (pc := 2) dX0_judge_2 rfl rfl ?_
    refine r_bipush (pc := 3) (v := 6) dX0_judge_3 (by decide) ?_
    refine r_icmp_ge (pc := 5) (tgt := 52) dX0_judge_5 (by decide) (fun h5 => ?_) (fun h => absurd (by rw [show p = 6 by omega]; decide) h)
    refine AW_drop 1 rfl ?_
    have hl0 : l = [] := by rw [← hld]; exact List.drop_eq_nil_of_le (by omega)
    subst hl0
    have hcv9 : vl1 = vl2 := hcv
    have hch9 : hs1 = hs2 := hch
    subst hcv9
    subst hch9
    exact kk w1 hkw hA hl
  | succ m ih =>
    intro p l w1 vl1 hs1 hpm hld hkw hA hl hcv hch
    have hp : p < 6 := by omega
    have hM := FM_kp hM0 hkw (by simpa using And.intro htf (Ne.symm htt)) (by simpa using Ne.symm ht0)
    have hH := HD_kp hH0 hkw (by simpa using And.intro htf (Ne.symm htt))
    obtain ⟨kn, vd, hr, hd, hde, hke⟩ := id hA.2
    refine r_iload_n (pc := 2) dX0_judge_2 rfl rfl ?_
    refine r_bipush (pc := 3) (v := 6) dX0_judge_3 (by decide) ?_
    refine r_icmp_ge (pc := 5) (tgt := 52) dX0_judge_5 (by decide) (fun h => absurd h (nI_ge9 hp (by decide))) (fun h5 => ?_)
    refine r_aload_n (pc := 8) dX0_judge_8 rfl rfl ?_
    refine g_X0_28 (pc := 9) rfl hA.1.2 rfl dX0_judge_9 ?_
    refine r_iload_n (pc := 12) dX0_judge_12 rfl rfl ?_
    refine s_X0_65 (pc := 13) (kc' := 0) (ks' := 0) rfl rfl (ac_toldAt hM hH hL6 (x := nI p) (nI_pos' (by omega))) hM.1.2 (Nat.le_of_ble_eq_true rfl) (Nat.le_of_ble_eq_true rfl) (Nat.le_of_ble_eq_true rfl) (Nat.le_of_ble_eq_true rfl) (by exact (Nat.le_of_ble_eq_true rfl)) rfl (List.forall_mem_cons.mpr ⟨rfl, (List.forall_mem_cons.mpr ⟨rfl, fun _ h => nomatch h⟩)⟩) rfl dX0_judge_13 aw_kt (aw_kq ?_)
    rw [nI_clamp (by omega)]
    rcases Nat.lt_or_ge p L9.length with hpl | hpl
    · obtain ⟨k, l9, hl0⟩ : ∃ k l9, l = k :: l9 := ⟨_, _, by rw [← hld]; exact List.drop_eq_getElem_cons hpl⟩
      subst hl0
      have hpk : L9[p]? = some k := by
        have h9 := List.drop_eq_getElem_cons hpl
        rw [hld] at h9
        injection h9 with h10 h11
        rw [List.getElem?_eq_getElem hpl, h10]
      have hl9 : L9.drop (p + 1) = l9 := by
        have h9 := List.drop_eq_getElem_cons hpl
        rw [hld] at h9
        injection h9 with h10 h11
        exact h11.symm
      have hk6 := hLk k (List.mem_of_getElem? hpk)
      have hkR := hLR k (List.mem_of_getElem? hpk)
      rw [hpk]
      show AW G fX0_judge 0 0 w1 16 _ [.int (nI k)] _
      refine r_istore_n (pc := 16) dX0_judge_16 rfl (Nat.le_of_ble_eq_true rfl) rfl ?_
      refine r_aload_n (pc := 17) dX0_judge_17 rfl rfl ?_
      refine g_X0_28 (pc := 18) rfl hA.1.2 rfl dX0_judge_18 ?_
      refine r_iload_n (pc := 21) dX0_judge_21 rfl rfl ?_
      refine s_X0_68 (pc := 22) (kc' := 0) (ks' := 0) rfl rfl (ac_formulaAt hM (k := k) (by omega)) hM.1.2 (Nat.le_of_ble_eq_true rfl) (Nat.le_of_ble_eq_true rfl) (Nat.le_of_ble_eq_true rfl) (Nat.le_of_ble_eq_true rfl) (by exact (Nat.le_of_ble_eq_true rfl)) rfl (List.forall_mem_cons.mpr ⟨rfl, (List.forall_mem_cons.mpr ⟨rfl, fun _ h => nomatch h⟩)⟩) rfl dX0_judge_22 aw_kt (aw_kq ?_)
      have hO := hM.2.2.2.1 k (by omega)
      obtain ⟨f, hg⟩ : ∃ f, gd k = some f := by
        cases hg : gd k with
        | none => rw [hg] at hO; exact absurd hO hkR
        | some f => exact ⟨f, rfl⟩
      have hF := FO_some hO hg
      rw [hg]
      refine r_astore_n (pc := 25) dX0_judge_25 rfl (Nat.le_of_ble_eq_true rfl) rfl ?_
      refine r_aload_n (pc := 26) dX0_judge_26 rfl rfl ?_
      refine r_ifnull (pc := 27) dX0_judge_27 ?_
      refine r_aload_n (pc := 30) dX0_judge_30 rfl rfl ?_
      refine g_X0_12 (pc := 31) rfl hA.1.2 rfl dX0_judge_31 ?_
      refine r_iload_n (pc := 34) dX0_judge_34 rfl rfl ?_
      refine r_aload_n (pc := 35) dX0_judge_35 rfl rfl ?_
      refine r_aload_n (pc := 36) dX0_judge_36 rfl rfl ?_
      refine g_X0_12 (pc := 37) rfl hA.1.2 rfl dX0_judge_37 ?_
      refine s_X0_72 (pc := 40) (kc' := 0) (ks' := 0) rfl rfl (ac6_rd hF hA.2 ht (hT k (by omega) hkR) hl) hF.2.2.2.1.2 (Nat.le_of_ble_eq_true rfl) (Nat.le_of_ble_eq_true rfl) (Nat.le_of_ble_eq_true rfl) (Nat.le_of_ble_eq_true rfl) (by exact (Nat.le_of_ble_eq_true rfl)) rfl (List.forall_mem_cons.mpr ⟨rfl, (List.forall_mem_cons.mpr ⟨rfl, fun _ h => nomatch h⟩)⟩) rfl dX0_judge_40 aw_ts (aw_ks (fun w2 hk2 => ?_))
      have hA := AN_kp hA hk2 (by simpa using ht)
      have hM := FM_kp hM hk2 (by simpa using htf) (by decide)
      obtain ⟨kn, vd, hr, hd, hde, hke⟩ := id hA.2
      refine s_X0_55 (pc := 43) (kc' := 0) (ks' := 0) rfl rfl (ac6_give hr.2 hd.2 hk6 _) hr.2 (Nat.le_of_ble_eq_true rfl) (Nat.le_of_ble_eq_true rfl) (Nat.le_of_ble_eq_true rfl) (Nat.le_of_ble_eq_true rfl) (by exact (Nat.le_of_ble_eq_true rfl)) rfl (List.forall_mem_cons.mpr ⟨rfl, (List.forall_mem_cons.mpr ⟨rfl, (List.forall_mem_cons.mpr ⟨rfl, fun _ h => nomatch h⟩)⟩)⟩) rfl dX0_judge_43 aw_kt (aw_kv ?_)
      have hN := AN_val hA ht hk6 (vaV vl1 (R6 k)) kn vd hr hd hde hke
      refine r_iincK (pc := 46) (k9 := 1) dX0_judge_46 (by decide) rfl (Nat.le_of_ble_eq_true rfl) rfl ?_
      refine r_goto (pc := 49) (tgt := 2) dX0_judge_49 (by decide) ?_
      refine AW_drop 3 rfl ?_
      refine AW_drop 2 rfl ?_
      rw [nI_1]
      exact ih (p + 1) l9 _ (upd vl1 k (vaV vl1 (R6 k))) (upd hs1 k 1) (by omega) hl9 (kp_tr hkw (kp_tr (kp_mono hk2 (by simp)) (kp_mono hN.1 (by simp)))) hN.2 (upd_fl hl hk6 (hfl k hk6 hkR vl1 hl)) hcv hch
    · have hl0 : l = [] := by rw [← hld]; exact List.drop_eq_nil_of_le hpl
      subst hl0
      rw [List.getElem?_eq_none hpl]
      show AW G fX0_judge 0 0 w1 16 _ [.int (-1)] _
      refine r_istore_n (pc := 16) dX0_judge_16 rfl (Nat.le_of_ble_eq_true rfl) rfl ?_
      refine r_aload_n (pc := 17) dX0_judge_17 rfl rfl ?_
      refine g_X0_28 (pc := 18) rfl hA.1.2 rfl dX0_judge_18 ?_
      refine r_iload_n (pc := 21) dX0_judge_21 rfl rfl ?_
      refine s_X0_68 (pc := 22) (kc' := 0) (ks' := 0) rfl rfl (ac_formulaAtN hM) hM.1.2 (Nat.le_of_ble_eq_true rfl) (Nat.le_of_ble_eq_true rfl) (Nat.le_of_ble_eq_true rfl) (Nat.le_of_ble_eq_true rfl) (by exact (Nat.le_of_ble_eq_true rfl)) rfl (List.forall_mem_cons.mpr ⟨rfl, (List.forall_mem_cons.mpr ⟨rfl, fun _ h => nomatch h⟩)⟩) rfl dX0_judge_22 aw_kt (aw_kq ?_)
      refine r_astore_nN (pc := 25) dX0_judge_25 rfl (Nat.le_of_ble_eq_true rfl) rfl ?_
      refine r_aload_nN (pc := 26) dX0_judge_26 rfl rfl ?_
      refine r_ifnullN (pc := 27) (tgt := 46) dX0_judge_27 (by decide) ?_
      refine r_iincK (pc := 46) (k9 := 1) dX0_judge_46 (by decide) rfl (Nat.le_of_ble_eq_true rfl) rfl ?_
      refine r_goto (pc := 49) (tgt := 2) dX0_judge_49 (by decide) ?_
      refine AW_drop 3 rfl ?_
      refine AW_drop 2 rfl ?_
      rw [nI_1]
      exact ih (p + 1) [] w1 vl1 hs1 (by omega) (by rw [List.drop_eq_nil_of_le (by omega)]) hkw hA hl hcv hch
set_option maxRecDepth 100000 in
set_option maxHeartbeats 4000000 in
theorem jd_end {G : aw_G} {ow : Nat → Nat} {w : List va_E} {t b v fa : Nat} {st db : Int32} {tf fy fq fo fh : Nat} {ty : Nat → Int32} {R6 : Nat → List Int32} {gd : Nat → Option Nat} {w1 : List va_E} {vl1 hs1 : Nat → Int32} (hkw : kp ow ow [1, t] w w1) (hA : AN ow w1 t b v fa st db vl1 hs1) (hM : FM ow w1 tf fa fy fq fo fh ty R6 gd) (ht : t ≠ 1) (htf : tf ≠ 1) (hT : ∀ k, k < 10 → R6 k ≠ [] → tyV ty (R6 k) ≠ -1) (hl : ∀ j, j < 6 → fl01 (ty j) (vl1 j)) : AW G fX0_judge 0 0 w1 52 [some (.ref b), none, none, none] [] (anQ ow w [1, t] t b v fa (stC (refU vl1 R6 6 4) db) db vl1 hs1) := by
  refine r_aload_n (pc := 52) dX0_judge_52 rfl rfl ?_
  refine r_aload_n (pc := 53) dX0_judge_53 rfl rfl ?_
  refine s_X0_78 (pc := 54) (kc' := 0) (ks' := 0) rfl rfl (aa_refusingCheck hA hM ht htf hT hl) hA.1.2 (Nat.le_of_ble_eq_true rfl) (Nat.le_of_ble_eq_true rfl) (Nat.le_of_ble_eq_true rfl) (Nat.le_of_ble_eq_true rfl) (by exact (Nat.le_of_ble_eq_true rfl)) rfl (List.forall_mem_cons.mpr ⟨rfl, fun _ h => nomatch h⟩) rfl dX0_judge_54 aw_ts (aw_ks (fun w2 hk2 => ?_))
  have hA := AN_kp hA hk2 (by simpa using ht)
  have hM := FM_kp hM hk2 (by simpa using htf) (by decide)
  refine r_iconst (pc := 57) (v := -1) dX0_judge_57 (by decide) ?_
  refine r_icmp_ne (pc := 58) (tgt := 68) dX0_judge_58 (by decide) (fun h58 => ?_) (fun h58 => ?_)
  · refine r_iconst (pc := 68) (v := 2) dX0_judge_68 (by decide) ?_
    refine p_X0_18 (pc := 69) rfl hA.1.2 (Nat.le_of_ble_eq_true rfl) dX0_judge_69 rfl ?_
    refine r_vret (pc := 72) rfl dX0_judge_72 ?_
    have hN := AN_put hA ht (stC (refU vl1 R6 6 4) db) db
    rw [show stC (refU vl1 R6 6 4) db = _ from if_neg h58] at hN
    exact ⟨rfl, kp_tr hkw (kp_tr (kp_mono hk2 (by simp)) (kp_mono hN.1 (by simp))), by rw [show stC (refU vl1 R6 6 4) db = _ from if_neg h58]; exact hN.2⟩
  · refine r_aload_n (pc := 61) dX0_judge_61 rfl rfl ?_
    refine s_X0_82 (pc := 62) (kc' := 0) (ks' := 0) rfl rfl (aa_stateByDoubts hA) hA.1.2 (Nat.le_of_ble_eq_true rfl) (Nat.le_of_ble_eq_true rfl) (Nat.le_of_ble_eq_true rfl) (Nat.le_of_ble_eq_true rfl) (by exact (Nat.le_of_ble_eq_true rfl)) rfl (List.forall_mem_cons.mpr ⟨rfl, fun _ h => nomatch h⟩) rfl dX0_judge_62 aw_kt (aw_kq ?_)
    refine r_goto (pc := 65) (tgt := 69) dX0_judge_65 (by decide) ?_
    refine p_X0_18 (pc := 69) rfl hA.1.2 (Nat.le_of_ble_eq_true rfl) dX0_judge_69 rfl ?_
    refine r_vret (pc := 72) rfl dX0_judge_72 ?_
    have hN := AN_put hA ht (stC (refU vl1 R6 6 4) db) db
    rw [show stC (refU vl1 R6 6 4) db = _ from if_pos h58] at hN
    exact ⟨rfl, kp_tr hkw (kp_tr (kp_mono hk2 (by simp)) (kp_mono hN.1 (by simp))), by rw [show stC (refU vl1 R6 6 4) db = _ from if_pos h58]; exact hN.2⟩
set_option maxRecDepth 100000 in
set_option maxHeartbeats 4000000 in
theorem aa_judge {G : aw_G} {ow : Nat → Nat} {w : List va_E} {t b v fa : Nat} {st db : Int32} {vl hs : Nat → Int32} (hA : AN ow w t b v fa st db vl hs) {tf fy fq fo fh : Nat} {ty : Nat → Int32} {R6 : Nat → List Int32} {gd : Nat → Option Nat} (hM : FM ow w tf fa fy fq fo fh ty R6 gd) (ht : t ≠ 1) (htf : tf ≠ 1) (htt : t ≠ tf) (ht0 : t ≠ 0) (hT : ∀ k, k < 10 → R6 k ≠ [] → tyV ty (R6 k) ≠ -1) (hfl : ∀ k, k < 6 → R6 k ≠ [] → ∀ vl : Nat → Int32, (∀ j, j < 6 → fl01 (ty j) (vl j)) → fl01 (ty k) (vaV vl (R6 k))) (hH : HD ow w tf fh (ordO R6 6 0 [])) (hl : ∀ j, j < 6 → fl01 (ty j) (vl j)) : AM G fX0_judge [.ref b] w (anQ ow w [1, t] t b v fa (stC (refU (cmpC R6 (ordO R6 6 0 []) vl) R6 6 4) db) db (cmpC R6 (ordO R6 6 0 []) vl) (hasC (ordO R6 6 0 []) hs)) := by
  refine AM_of (by decide) rfl rfl (Nat.le_of_ble_eq_true rfl) ?_
  show AW G fX0_judge 0 0 w 0 [some (.ref b), none, none, none] [] _
  refine r_iconst (pc := 0) (v := 0) dX0_judge_0 (by decide) ?_
  refine r_istore_n (pc := 1) dX0_judge_1 rfl (Nat.le_of_ble_eq_true rfl) rfl ?_
  exact jd_loop hM ht htf htt ht0 hT hfl hH (ordO_len 6 0 []) (ordO_mem 6 0 [] (fun _ z => nomatch z)) (ordO_ne 6 0 [] (fun _ z => nomatch z)) (fun w' hk hA2 hl2 => jd_end hk hA2 (FM_kp hM hk (by simpa using And.intro htf (Ne.symm htt)) (by simpa using Ne.symm ht0)) ht htf hT hl2) 6 0 _ w vl hs rfl rfl kp_rf hA hl rfl rfl

set_option maxRecDepth 100000 in
set_option maxHeartbeats 4000000 in
theorem aa_meetVersion {G : aw_G} {ow : Nat → Nat} {w : List va_E} {t b v fa : Nat} {st db : Int32} {vl hs : Nat → Int32} (hA : AN ow w t b v fa st db vl hs) {tf fy fq fo fh : Nat} {ty : Nat → Int32} {R6 : Nat → List Int32} {gd : Nat → Option Nat} (hM : FM ow w tf fa fy fq fo fh ty R6 gd) {t2 a2 y2 q2 o2 h2 : Nat} {ty2 : Nat → Int32} {R2 : Nat → List Int32} {gd2 : Nat → Option Nat} (hL : FM ow w t2 a2 y2 q2 o2 h2 ty2 R2 gd2) {t3 x : Nat} {Rd : Nat → List Int32} (hD : DA ow w t3 x Rd) (ht : t ≠ 1) : AM G fX0_meetVersion [.ref b, .ref a2, .ref x] w (anQ ow w [t] t b v fa (if st = 1 ∨ st = 3 then (if (db ||| ffL R6 Rd 0 10 (ffT ty ty2 0 6 0)) = 0 then 1 else 3) else st) (if st = 1 ∨ st = 3 then (db ||| ffL R6 Rd 0 10 (ffT ty ty2 0 6 0)) else db) vl hs) := by
  refine AM_of (by decide) rfl rfl (Nat.le_of_ble_eq_true rfl) ?_
  show AW G fX0_meetVersion 0 0 w 0 [some (.ref b), some (.ref a2), some (.ref x)] [] _
  refine r_aload_n (pc := 0) dX0_meetVersion_0 rfl rfl ?_
  refine s_X0_85 (pc := 1) (kc' := 0) (ks' := 0) rfl rfl (aa_isReviewable hA) hA.1.2 (Nat.le_of_ble_eq_true rfl) (Nat.le_of_ble_eq_true rfl) (Nat.le_of_ble_eq_true rfl) (Nat.le_of_ble_eq_true rfl) (by exact (Nat.le_of_ble_eq_true rfl)) rfl (List.forall_mem_cons.mpr ⟨rfl, fun _ h => nomatch h⟩) rfl dX0_meetVersion_1 aw_kt (aw_kq ?_)
  refine r_if_eq (pc := 4) (tgt := 20) dX0_meetVersion_4 (by decide) (fun h4 => ?_) (fun h4 => ?_)
  · refine r_vret (pc := 20) rfl dX0_meetVersion_20 ?_
    have h9 : ¬ (st = 1 ∨ st = 3) := of_decide_eq_false (bi_eq.mp h4)
    rw [if_neg h9, if_neg h9]
    exact ⟨rfl, kp_rf, hA⟩
  · refine r_aload_n (pc := 7) dX0_meetVersion_7 rfl rfl ?_
    refine r_aload_n (pc := 8) dX0_meetVersion_8 rfl rfl ?_
    refine g_X0_28 (pc := 9) rfl hA.1.2 rfl dX0_meetVersion_9 ?_
    refine r_aload_n (pc := 12) dX0_meetVersion_12 rfl rfl ?_
    refine r_aload_n (pc := 13) dX0_meetVersion_13 rfl rfl ?_
    refine s_X0_89 (pc := 14) (kc' := 0) (ks' := 0) rfl rfl (ac_fieldsThatFall hM hL hD) hM.1.2 (Nat.le_of_ble_eq_true rfl) (Nat.le_of_ble_eq_true rfl) (Nat.le_of_ble_eq_true rfl) (Nat.le_of_ble_eq_true rfl) (by exact (Nat.le_of_ble_eq_true rfl)) rfl (List.forall_mem_cons.mpr ⟨rfl, (List.forall_mem_cons.mpr ⟨rfl, (List.forall_mem_cons.mpr ⟨rfl, fun _ h => nomatch h⟩)⟩)⟩) rfl dX0_meetVersion_14 aw_kt (aw_kq ?_)
    refine s_X0_93 (pc := 17) (kc' := 0) (ks' := 0) rfl rfl (aa_addDoubts hA ht _) hA.1.2 (Nat.le_of_ble_eq_true rfl) (Nat.le_of_ble_eq_true rfl) (Nat.le_of_ble_eq_true rfl) (Nat.le_of_ble_eq_true rfl) (by exact (Nat.le_of_ble_eq_true rfl)) rfl (List.forall_mem_cons.mpr ⟨rfl, (List.forall_mem_cons.mpr ⟨rfl, fun _ h => nomatch h⟩)⟩) rfl dX0_meetVersion_17 aw_tA (aw_kA (fun w2 hk2 hA2 => ?_))
    refine r_vret (pc := 20) rfl dX0_meetVersion_20 ?_
    have h9 : st = 1 ∨ st = 3 := of_decide_eq_true (bi_ne.mp h4)
    rw [if_pos h9, if_pos h9]
    exact ⟨rfl, hk2, hA2⟩

end S26
