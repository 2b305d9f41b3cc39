/-! ===== the class: a Form, its loops ===== -/
section S21
set_option maxRecDepth 100000 in
set_option maxHeartbeats 4000000 in
theorem cf_loop {G : aw_G} {ow : Nat → Nat} {t a y q o h : Nat} {ty : Nat → Int32} {R6 : Nat → List Int32} {gd : Nat → Option Nat} {w : List va_E} (hM : FM ow w t a y q o h ty R6 gd) (v : Nat) : ∀ (m k c : Nat), k + m = 10 → c + cntU (fun g => decide (R6 g ≠ [])) k m = v → AW G fX1_countFormulas 0 0 w 13 [some (.ref a), some (.int (nI c)), some (.ref o), some (.int (nI 10)), some (.int (nI k)), none] [] (qx (.inl (some (.int (nI v)))) w) := by
  intro m
  induction m with
  | zero =>
    intro k c hk hv
    refine r_iload (pc := 13) dX1_countFormulas_13 rfl ?_
    refine r_iload_n (pc := 15) dX1_countFormulas_15 rfl rfl ?_
    refine r_icmp_ge (pc := 16) (tgt := 39) dX1_countFormulas_16 (by decide) (fun h16 => ?_) (fun h => absurd (by rw [show k = 10 by omega]; decide) h)
    refine r_iload_n (pc := 39) dX1_countFormulas_39 rfl rfl ?_
    refine r_iret (pc := 40) rfl rfl dX1_countFormulas_40 ?_
    exact ⟨by rw [← hv]; rfl, rfl⟩
  | succ m ih =>
    intro k c hkm hv
    have hk : k < 10 := by omega
    refine r_iload (pc := 13) dX1_countFormulas_13 rfl ?_
    refine r_iload_n (pc := 15) dX1_countFormulas_15 rfl rfl ?_
    refine r_icmp_ge (pc := 16) (tgt := 39) dX1_countFormulas_16 (by decide) (fun h => absurd h (nI_ge9 hk (by decide))) (fun h16 => ?_)
    refine r_aload_n (pc := 19) dX1_countFormulas_19 rfl rfl ?_
    refine r_iload (pc := 20) dX1_countFormulas_20 rfl ?_
    refine r_aaload (pc := 22) (t := 5) (fun _ => rfl) hM.2.2.1.2 (vp_in_nI (n := k) hk (Nat.le_of_ble_eq_true rfl)) dX1_countFormulas_22 ?_
    rw [nI_clamp (by omega)]
    have hO := FO_none (hM.2.2.2.1 k hk)
    cases hg : gd k with
    | none =>
      rw [hg] at hO
      have hb : decide (R6 k ≠ []) = false := decide_eq_false (fun z => z (hO.mpr rfl))
      refine r_astoreN (pc := 23) dX1_countFormulas_23 (Nat.le_of_ble_eq_true rfl) rfl ?_
      refine r_aloadN (pc := 25) dX1_countFormulas_25 rfl ?_
      refine r_ifnullN (pc := 27) (tgt := 33) dX1_countFormulas_27 (by decide) ?_
      refine r_iincK (pc := 33) (k9 := 1) dX1_countFormulas_33 (by decide) rfl (Nat.le_of_ble_eq_true rfl) rfl ?_
      refine r_goto (pc := 36) (tgt := 13) dX1_countFormulas_36 (by decide) ?_
      refine AW_drop 5 rfl ?_
      rw [nI_1]
      refine ih (k + 1) (c) (by omega) (by rw [← hv, cntU, hb]; simp <;> omega)
    | some f =>
      rw [hg] at hO
      have hb : decide (R6 k ≠ []) = true := decide_eq_true (fun z => by cases hO.mp z)
      refine r_astore (pc := 23) dX1_countFormulas_23 (Nat.le_of_ble_eq_true rfl) rfl ?_
      refine r_aload (pc := 25) dX1_countFormulas_25 rfl ?_
      refine r_ifnull (pc := 27) dX1_countFormulas_27 ?_
      refine r_iincK (pc := 30) (k9 := 1) dX1_countFormulas_30 (by decide) rfl (Nat.le_of_ble_eq_true rfl) rfl ?_
      refine r_iincK (pc := 33) (k9 := 1) dX1_countFormulas_33 (by decide) rfl (Nat.le_of_ble_eq_true rfl) rfl ?_
      refine r_goto (pc := 36) (tgt := 13) dX1_countFormulas_36 (by decide) ?_
      refine AW_drop 5 rfl ?_
      rw [nI_1]
      rw [nI_1]
      refine ih (k + 1) (c + 1) (by omega) (by rw [← hv, cntU, hb]; simp <;> omega)
set_option maxRecDepth 100000 in
set_option maxHeartbeats 4000000 in
theorem ac_countFormulas {G : aw_G} {ow : Nat → Nat} {w : List va_E} {t a y q o h : Nat} {ty : Nat → Int32} {R6 : Nat → List Int32} {gd : Nat → Option Nat} (hM : FM ow w t a y q o h ty R6 gd)  : AM G fX1_countFormulas [.ref a] w (qx (.inl (some (.int (nI (cntU (fun g => decide (R6 g ≠ [])) 0 10))))) w) := by
  refine AM_of (by decide) rfl rfl (Nat.le_of_ble_eq_true rfl) ?_
  show AW G fX1_countFormulas 0 0 w 0 [some (.ref a), none, none, none, none, none] [] _
  refine r_iconst (pc := 0) (v := 0) dX1_countFormulas_0 (by decide) ?_
  refine r_istore_n (pc := 1) dX1_countFormulas_1 rfl (Nat.le_of_ble_eq_true rfl) rfl ?_
  refine r_aload_n (pc := 2) dX1_countFormulas_2 rfl rfl ?_
  refine g_X1_11 (pc := 3) rfl hM.1.2 rfl dX1_countFormulas_3 ?_
  refine r_astore_n (pc := 6) dX1_countFormulas_6 rfl (Nat.le_of_ble_eq_true rfl) rfl ?_
  refine r_aload_n (pc := 7) dX1_countFormulas_7 rfl rfl ?_
  refine r_alen (pc := 8) (t := 5) (v := nI 10) (fun _ => rfl) hM.2.2.1.2 rfl dX1_countFormulas_8 ?_
  refine r_istore_n (pc := 9) dX1_countFormulas_9 rfl (Nat.le_of_ble_eq_true rfl) rfl ?_
  refine r_iconst (pc := 10) (v := 0) dX1_countFormulas_10 (by decide) ?_
  refine r_istore (pc := 11) dX1_countFormulas_11 (Nat.le_of_ble_eq_true rfl) rfl ?_
  exact cf_loop hM _ 10 0 0 rfl (Nat.zero_add _)

set_option maxRecDepth 100000 in
set_option maxHeartbeats 4000000 in
theorem cb_loop {G : aw_G} {ow : Nat → Nat} {t a y q o h : Nat} {ty : Nat → Int32} {R6 : Nat → List Int32} {gd : Nat → Option Nat} {w : List va_E} (ht : t ≠ 1) (hM0 : FM ow w t a y q o h ty R6 gd) (v : Nat) : ∀ (m k c : Nat) (w1 : List va_E), kp ow ow [1] w w1 → k + m = 10 → c + cntU (fun f => brkF ty (R6 f) f) k m = v → AW G fX1_countBroken 0 0 w1 4 [some (.ref a), some (.int (nI c)), some (.int (nI k))] [] (qs ow w (nI v)) := by
  intro m
  induction m with
  | zero =>
    intro k c w1 hkw hk hv
    refine r_iload_n (pc := 4) dX1_countBroken_4 rfl rfl ?_
    refine r_bipush (pc := 5) (v := 10) dX1_countBroken_5 (by decide) ?_
    refine r_icmp_ge (pc := 7) (tgt := 27) dX1_countBroken_7 (by decide) (fun h7 => ?_) (fun h => absurd (by rw [show k = 10 by omega]; decide) h)
    refine r_iload_n (pc := 27) dX1_countBroken_27 rfl rfl ?_
    refine r_iret (pc := 28) rfl rfl dX1_countBroken_28 ?_
    exact ⟨by rw [← hv]; rfl, hkw⟩
  | succ m ih =>
    intro k c w1 hkw hkm hv
    have hk : k < 10 := by omega
    have hM := FM_kp hM0 hkw (by simpa using ht) (by decide)
    refine r_iload_n (pc := 4) dX1_countBroken_4 rfl rfl ?_
    refine r_bipush (pc := 5) (v := 10) dX1_countBroken_5 (by decide) ?_
    refine r_icmp_ge (pc := 7) (tgt := 27) dX1_countBroken_7 (by decide) (fun h => absurd h (nI_ge9 hk (by decide))) (fun h7 => ?_)
    refine r_aload_n (pc := 10) dX1_countBroken_10 rfl rfl ?_
    refine r_iload_n (pc := 11) dX1_countBroken_11 rfl rfl ?_
    refine s_X1_54 (pc := 12) (kc' := 0) (ks' := 0) rfl rfl (ac_hasBroken hM ht hk) hM.1.2 (Nat.le_of_ble_eq_true rfl) (Nat.le_of_ble_eq_true rfl) (Nat.le_of_ble_eq_true rfl) (Nat.le_of_ble_eq_true rfl) (by exact (Nat.le_of_ble_eq_true rfl)) rfl (List.forall_mem_cons.mpr ⟨rfl, (List.forall_mem_cons.mpr ⟨rfl, fun _ h => nomatch h⟩)⟩) rfl dX1_countBroken_12 aw_ts (aw_ks (fun w2 hk2 => ?_))
    refine r_if_eq (pc := 15) (tgt := 21) dX1_countBroken_15 (by decide) (fun h15 => ?_) (fun h15 => ?_)
    · refine r_iincK (pc := 21) (k9 := 1) dX1_countBroken_21 (by decide) rfl (Nat.le_of_ble_eq_true rfl) rfl ?_
      refine r_goto (pc := 24) (tgt := 4) dX1_countBroken_24 (by decide) ?_
      have hb : brkF ty (R6 k) k = false := bi_eq.mp h15
      rw [nI_1]
      refine ih (k + 1) (c) w2 (kp_tr hkw hk2) (by omega) (by rw [← hv, cntU, hb]; simp <;> omega)
    · refine r_iincK (pc := 18) (k9 := 1) dX1_countBroken_18 (by decide) rfl (Nat.le_of_ble_eq_true rfl) rfl ?_
      refine r_iincK (pc := 21) (k9 := 1) dX1_countBroken_21 (by decide) rfl (Nat.le_of_ble_eq_true rfl) rfl ?_
      refine r_goto (pc := 24) (tgt := 4) dX1_countBroken_24 (by decide) ?_
      have hb : brkF ty (R6 k) k = true := bi_ne.mp h15
      rw [nI_1]
      rw [nI_1]
      refine ih (k + 1) (c + 1) w2 (kp_tr hkw hk2) (by omega) (by rw [← hv, cntU, hb]; simp <;> omega)
set_option maxRecDepth 100000 in
set_option maxHeartbeats 4000000 in
theorem ac_countBroken {G : aw_G} {ow : Nat → Nat} {w : List va_E} {t a y q o h : Nat} {ty : Nat → Int32} {R6 : Nat → List Int32} {gd : Nat → Option Nat} (hM : FM ow w t a y q o h ty R6 gd) (ht : t ≠ 1) : AM G fX1_countBroken [.ref a] w (qs ow w (nI (cntU (fun f => brkF ty (R6 f) f) 0 10))) := by
  refine AM_of (by decide) rfl rfl (Nat.le_of_ble_eq_true rfl) ?_
  show AW G fX1_countBroken 0 0 w 0 [some (.ref a), none, none] [] _
  refine r_iconst (pc := 0) (v := 0) dX1_countBroken_0 (by decide) ?_
  refine r_istore_n (pc := 1) dX1_countBroken_1 rfl (Nat.le_of_ble_eq_true rfl) rfl ?_
  refine r_iconst (pc := 2) (v := 0) dX1_countBroken_2 (by decide) ?_
  refine r_istore_n (pc := 3) dX1_countBroken_3 rfl (Nat.le_of_ble_eq_true rfl) rfl ?_
  exact cb_loop ht hM _ 10 0 0 w kp_rf rfl (Nat.zero_add _)

set_option maxRecDepth 100000 in
set_option maxHeartbeats 4000000 in
theorem lo_loop {G : aw_G} {ow : Nat → Nat} {t a y q o h : Nat} {ty : Nat → Int32} {R6 : Nat → List Int32} {gd : Nat → Option Nat} {w : List va_E} (hM : FM ow w t a y q o h ty R6 gd) {dn wt : Int32} (hwt : wtB R6 dn wt) (hok : ∀ k, k < 6 → okL (R6 k)) (v : Int32) : ∀ (m k : Nat), k + m = 6 → ((fndO R6 dn k m).map nI).getD (-1) = v → AW G fX1_lowestFree 0 0 w 2 [some (.ref a), some (.int wt), some (.int (nI k))] [] (qx (.inl (some (.int v))) w) := by
  intro m
  induction m with
  | zero =>
    intro k hk hv
    refine r_iload_n (pc := 2) dX1_lowestFree_2 rfl rfl ?_
    refine r_bipush (pc := 3) (v := 6) dX1_lowestFree_3 (by decide) ?_
    refine r_icmp_ge (pc := 5) (tgt := 34) dX1_lowestFree_5 (by decide) (fun h5 => ?_) (fun h => absurd (by rw [show k = 6 by omega]; decide) h)
    refine r_iconst (pc := 34) (v := -1) dX1_lowestFree_34 (by decide) ?_
    refine r_iret (pc := 35) rfl rfl dX1_lowestFree_35 ?_
    exact ⟨by rw [← hv]; rfl, rfl⟩
  | succ m ih =>
    intro k hkm hv
    have hk : k < 6 := by omega
    refine r_iload_n (pc := 2) dX1_lowestFree_2 rfl rfl ?_
    refine r_bipush (pc := 3) (v := 6) dX1_lowestFree_3 (by decide) ?_
    refine r_icmp_ge (pc := 5) (tgt := 34) dX1_lowestFree_5 (by decide) (fun h => absurd h (nI_ge9 hk (by decide))) (fun h5 => ?_)
    refine r_iload_n (pc := 8) dX1_lowestFree_8 rfl rfl ?_
    refine r_iload_n (pc := 9) dX1_lowestFree_9 rfl rfl ?_
    refine s_X1_62 (pc := 10) (kc' := 0) (ks' := 0) rfl rfl (ac_isIn _ _)  (Nat.le_of_ble_eq_true rfl) (Nat.le_of_ble_eq_true rfl) (Nat.le_of_ble_eq_true rfl) (Nat.le_of_ble_eq_true rfl) (by exact (Nat.le_of_ble_eq_true rfl)) rfl (List.forall_mem_cons.mpr ⟨rfl, (List.forall_mem_cons.mpr ⟨rfl, fun _ h => nomatch h⟩)⟩) rfl dX1_lowestFree_10 aw_kt (aw_kq ?_)
    refine r_if_eq (pc := 13) (tgt := 28) dX1_lowestFree_13 (by decide) (fun h13 => ?_) (fun h13 => ?_)
    · refine r_iincK (pc := 28) (k9 := 1) dX1_lowestFree_28 (by decide) rfl (Nat.le_of_ble_eq_true rfl) rfl ?_
      refine r_goto (pc := 31) (tgt := 2) dX1_lowestFree_31 (by decide) ?_
      rw [nI_1]
      refine ih (k + 1) (by omega) ?_
      rw [← hv, fndO, if_neg (fun z => absurd ((free_iff hwt hk (hok k hk)).mpr z).1 (by rw [bi_eq.mp h13]; decide))]
    · refine r_aload_n (pc := 16) dX1_lowestFree_16 rfl rfl ?_
      refine r_iload_n (pc := 17) dX1_lowestFree_17 rfl rfl ?_
      refine s_X1_66 (pc := 18) (kc' := 0) (ks' := 0) rfl rfl (ac_lettersAt hM (k := k) (by omega)) hM.1.2 (Nat.le_of_ble_eq_true rfl) (Nat.le_of_ble_eq_true rfl) (Nat.le_of_ble_eq_true rfl) (Nat.le_of_ble_eq_true rfl) (by exact (Nat.le_of_ble_eq_true rfl)) rfl (List.forall_mem_cons.mpr ⟨rfl, (List.forall_mem_cons.mpr ⟨rfl, fun _ h => nomatch h⟩)⟩) rfl dX1_lowestFree_18 aw_kt (aw_kq ?_)
      refine r_iload_n (pc := 21) dX1_lowestFree_21 rfl rfl ?_
      refine r_iand (pc := 22) dX1_lowestFree_22 ?_
      refine r_if_ne (pc := 23) (tgt := 28) dX1_lowestFree_23 (by decide) (fun h23 => ?_) (fun h23 => ?_)
      · refine r_iincK (pc := 28) (k9 := 1) dX1_lowestFree_28 (by decide) rfl (Nat.le_of_ble_eq_true rfl) rfl ?_
        refine r_goto (pc := 31) (tgt := 2) dX1_lowestFree_31 (by decide) ?_
        rw [nI_1]
        refine ih (k + 1) (by omega) ?_
        rw [← hv, fndO, if_neg (fun z => h23 ((free_iff hwt hk (hok k hk)).mpr z).2)]
      · refine r_iload_n (pc := 26) dX1_lowestFree_26 rfl rfl ?_
        refine r_iret (pc := 27) rfl rfl dX1_lowestFree_27 ?_
        rw [fndO, if_pos ((free_iff hwt hk (hok k hk)).mp ⟨bi_ne.mp h13, h23⟩)] at hv
        exact ⟨by rw [← hv]; rfl, rfl⟩
set_option maxRecDepth 100000 in
set_option maxHeartbeats 4000000 in
theorem ac_lowestFree {G : aw_G} {ow : Nat → Nat} {w : List va_E} {t a y q o h : Nat} {ty : Nat → Int32} {R6 : Nat → List Int32} {gd : Nat → Option Nat} (hM : FM ow w t a y q o h ty R6 gd) {dn wt : Int32} (hwt : wtB R6 dn wt) (hok : ∀ k, k < 6 → okL (R6 k)) : AM G fX1_lowestFree [.ref a, .int wt] w (qx (.inl (some (.int (((fndO R6 dn 0 6).map nI).getD (-1))))) w) := by
  refine AM_of (by decide) rfl rfl (Nat.le_of_ble_eq_true rfl) ?_
  show AW G fX1_lowestFree 0 0 w 0 [some (.ref a), some (.int wt), none] [] _
  refine r_iconst (pc := 0) (v := 0) dX1_lowestFree_0 (by decide) ?_
  refine r_istore_n (pc := 1) dX1_lowestFree_1 rfl (Nat.le_of_ble_eq_true rfl) rfl ?_
  exact lo_loop hM hwt hok _ 6 0 rfl rfl

set_option maxRecDepth 100000 in
set_option maxHeartbeats 4000000 in
theorem tol_loop1 {G : aw_G} {ow : Nat → Nat} {t a y q o h : Nat} {ty : Nat → Int32} {R6 : Nat → List Int32} {gd : Nat → Option Nat} {w : List va_E} (hM : FM ow w t a y q o h ty R6 gd) {Q : aw_R → List va_E → Prop} (kk : ∀ wt : Int32, wtB R6 0 wt → AW G fX1_tellOrder 0 0 w 36 [some (.ref a), some (.int wt), some (.int 0), none] [] Q) : ∀ (m k : Nat) (s : Int32), k + m = 6 → (∀ j, j < 32 → bitI s j = (decide (j < k) && decide (R6 j ≠ []))) → AW G fX1_tellOrder 0 0 w 4 [some (.ref a), some (.int s), some (.int (nI k)), none] [] Q := by
  intro m
  induction m with
  | zero =>
    intro k s hk hs
    refine r_iload_n (pc := 4) dX1_tellOrder_4 rfl rfl ?_
    refine r_bipush (pc := 5) (v := 6) dX1_tellOrder_5 (by decide) ?_
    refine r_icmp_ge (pc := 7) (tgt := 34) dX1_tellOrder_7 (by decide) (fun h7 => ?_) (fun h => absurd (by rw [show k = 6 by omega]; decide) h)
    refine r_iconst (pc := 34) (v := 0) dX1_tellOrder_34 (by decide) ?_
    refine r_istore_n (pc := 35) dX1_tellOrder_35 rfl (Nat.le_of_ble_eq_true rfl) rfl ?_
    refine kk s (fun j hj => ?_)
    rw [hs j hj, show k = 6 by omega]
    congr 1
    unfold wtO
    rw [bitI_0 hj, Bool.not_false, Bool.and_true]
  | succ m ih =>
    intro k s hkm hs
    have hk : k < 6 := by omega
    refine r_iload_n (pc := 4) dX1_tellOrder_4 rfl rfl ?_
    refine r_bipush (pc := 5) (v := 6) dX1_tellOrder_5 (by decide) ?_
    refine r_icmp_ge (pc := 7) (tgt := 34) dX1_tellOrder_7 (by decide) (fun h => absurd h (nI_ge9 hk (by decide))) (fun h7 => ?_)
    refine r_iload_n (pc := 10) dX1_tellOrder_10 rfl rfl ?_
    refine r_aload_n (pc := 11) dX1_tellOrder_11 rfl rfl ?_
    refine r_iload_n (pc := 12) dX1_tellOrder_12 rfl rfl ?_
    refine s_X1_83 (pc := 13) (kc' := 0) (ks' := 0) rfl rfl (ac_isComputed hM hk) hM.1.2 (Nat.le_of_ble_eq_true rfl) (Nat.le_of_ble_eq_true rfl) (Nat.le_of_ble_eq_true rfl) (Nat.le_of_ble_eq_true rfl) (by exact (Nat.le_of_ble_eq_true rfl)) rfl (List.forall_mem_cons.mpr ⟨rfl, (List.forall_mem_cons.mpr ⟨rfl, fun _ h => nomatch h⟩)⟩) rfl dX1_tellOrder_13 aw_kt (aw_kq ?_)
    refine r_if_eq (pc := 16) (tgt := 25) dX1_tellOrder_16 (by decide) (fun h16 => ?_) (fun h16 => ?_)
    · refine r_iconst (pc := 25) (v := 0) dX1_tellOrder_25 (by decide) ?_
      refine r_ior (pc := 26) dX1_tellOrder_26 ?_
      refine r_istore_n (pc := 27) dX1_tellOrder_27 rfl (Nat.le_of_ble_eq_true rfl) rfl ?_
      refine r_iincK (pc := 28) (k9 := 1) dX1_tellOrder_28 (by decide) rfl (Nat.le_of_ble_eq_true rfl) rfl ?_
      refine r_goto (pc := 31) (tgt := 4) dX1_tellOrder_31 (by decide) ?_
      rw [nI_1]
      refine ih (k + 1) _ (by omega) (fun j hj => ?_)
      have hc : decide (R6 k ≠ []) = false := bi_eq.mp h16
      rw [show s ||| 0 = s from b_ext (fun i _ => by rw [b_or, b_0, Bool.or_false]), hs j hj]
      by_cases e : j = k
      · subst e
        rw [hc, Bool.and_false, Bool.and_false]
      · congr 1
        by_cases h3 : j < k
        · rw [decide_eq_true h3, decide_eq_true (by omega)]
        · rw [decide_eq_false h3, decide_eq_false (by omega)]
    · refine r_iconst (pc := 19) (v := 1) dX1_tellOrder_19 (by decide) ?_
      refine r_iload_n (pc := 20) dX1_tellOrder_20 rfl rfl ?_
      refine r_ishl (pc := 21) dX1_tellOrder_21 ?_
      refine r_goto (pc := 22) (tgt := 26) dX1_tellOrder_22 (by decide) ?_
      refine r_ior (pc := 26) dX1_tellOrder_26 ?_
      refine r_istore_n (pc := 27) dX1_tellOrder_27 rfl (Nat.le_of_ble_eq_true rfl) rfl ?_
      refine r_iincK (pc := 28) (k9 := 1) dX1_tellOrder_28 (by decide) rfl (Nat.le_of_ble_eq_true rfl) rfl ?_
      refine r_goto (pc := 31) (tgt := 4) dX1_tellOrder_31 (by decide) ?_
      rw [nI_1]
      refine ih (k + 1) _ (by omega) (fun j hj => ?_)
      have hc : decide (R6 k ≠ []) = true := bi_ne.mp h16
      show bitI (s ||| b1 k) j = _
      rw [bitI_or hj, bitI_b1 (by omega) hj, hs j hj]
      by_cases e : j = k
      · subst e
        rw [decide_eq_true rfl, decide_eq_true (show j < j + 1 by omega), hc]; simp
      · rw [decide_eq_false e, Bool.or_false]
        congr 1
        by_cases h3 : j < k
        · rw [decide_eq_true h3, decide_eq_true (by omega)]
        · rw [decide_eq_false h3, decide_eq_false (by omega)]
/-- the told row is written -/
def toQ (w : List va_E) (h : Nat) (L : List Nat) : aw_R → List va_E → Prop := fun r w' => r = .inl none ∧ ∃ td : Nat → Int32, w' = w.set h (.inl (0, 6, .inl td)) ∧ ∀ j, j < 6 → td j = ((L[j]?).map nI).getD (-1)
theorem FM_told {ow : Nat → Nat} {w : List va_E} {t a y q o h : Nat} {ty : Nat → Int32} {R6 : Nat → List Int32} {gd : Nat → Option Nat} (hM : FM ow w t a y q o h ty R6 gd) (ht : t ≠ 1) (h0 : t ≠ 0) (hqh : q ≠ h) (td : Nat → Int32) : FM ow (w.set h (.inl (0, 6, .inl td))) t a y q o h ty R6 gd := by
  obtain ⟨h1, ⟨h2, td0, h3, h4⟩, h5, h6, td1, h7⟩ := hM
  have hk : kp ow ow [t] w (w.set h (.inl (0, 6, .inl td))) := kp_set h7.1 (List.mem_singleton.mpr rfl) ht
  refine ⟨cl_ne h1 (fun z => ?_), ⟨cl_ne h2 (fun z => ?_), td0, cl_ne h3 (fun z => hqh z.symm), h4⟩, cl_ne h5 (fun z => ?_), fun k hk9 => FO_kp (h6 k hk9) hk (fun z => h0 (List.mem_singleton.mp z).symm), td, cl_set h7⟩
  · have := h7.2; rw [z, h1.2] at this; cases this
  · have := h7.2; rw [z, h2.2] at this; cases this
  · have := h7.2; rw [z, h5.2] at this; cases this
set_option maxRecDepth 100000 in
set_option maxHeartbeats 4000000 in
theorem tol_loop2 {G : aw_G} {ow : Nat → Nat} {t a y q o h : Nat} {ty : Nat → Int32} {R6 : Nat → List Int32} {gd : Nat → Option Nat} {w : List va_E} (hM : FM ow w t a y q o h ty R6 gd) (ht : t ≠ 1) (h0 : t ≠ 0) (hqh : q ≠ h) (hok : ∀ k, k < 6 → okL (R6 k)) (L : List Nat) : ∀ (m p : Nat) (dn : Int32) (acc : List Nat) (wt : Int32) (td : Nat → Int32), p + m = 6 → wtB R6 dn wt → acc.length ≤ p → (∀ j, j < p → td j = ((acc[j]?).map nI).getD (-1)) → ordO R6 m dn acc = L → (acc.length = p ∨ fndO R6 dn 0 6 = none) → AW G fX1_tellOrder 0 0 (w.set h (.inl (0, 6, .inl td))) 36 [some (.ref a), some (.int wt), some (.int (nI p)), none] [] (toQ w h L) := by
  have hM1 := fun td => FM_told hM ht h0 hqh td
  have hA1 := fun td => (hM1 td).1.2
  obtain ⟨td00, htd00⟩ := hM.2.2.2.2
  have htd1 : ∀ td : Nat → Int32, (w.set h (.inl (0, 6, .inl td)))[h]? = some (.inl (0, 6, .inl td)) := fun td => by rw [List.getElem?_set_self (lt_of_at htd00.2)]
  intro m
  induction m with
  | zero =>
    intro p dn acc wt td hp9 hwt hal hacc hL hor
    refine r_iload_n (pc := 36) dX1_tellOrder_36 rfl rfl ?_
    refine r_bipush (pc := 37) (v := 6) dX1_tellOrder_37 (by decide) ?_
    refine r_icmp_ge (pc := 39) (tgt := 78) dX1_tellOrder_39 (by decide) (fun h39 => ?_) (fun h => absurd (by rw [show p = 6 by omega]; decide) h)
    refine r_vret (pc := 78) rfl dX1_tellOrder_78 ?_
    have hp6 : p = 6 := by omega
    subst hp6
    exact ⟨rfl, td, rfl, fun j hj => by rw [hacc j hj, ← hL]; rfl⟩
  | succ m ih =>
    intro p dn acc wt td hpm hwt hal hacc hL hor
    have hp : p < 6 := by omega
    refine r_iload_n (pc := 36) dX1_tellOrder_36 rfl rfl ?_
    refine r_bipush (pc := 37) (v := 6) dX1_tellOrder_37 (by decide) ?_
    refine r_icmp_ge (pc := 39) (tgt := 78) dX1_tellOrder_39 (by decide) (fun h => absurd h (nI_ge9 hp (by decide))) (fun h39 => ?_)
    refine r_aload_n (pc := 42) dX1_tellOrder_42 rfl rfl ?_
    refine r_iload_n (pc := 43) dX1_tellOrder_43 rfl rfl ?_
    refine s_X1_86 (pc := 44) (kc' := 0) (ks' := 0) rfl rfl (ac_lowestFree (hM1 td) hwt hok) (hA1 td) (Nat.le_of_ble_eq_true rfl) (Nat.le_of_ble_eq_true rfl) (Nat.le_of_ble_eq_true rfl) (Nat.le_of_ble_eq_true rfl) (by exact (Nat.le_of_ble_eq_true rfl)) rfl (List.forall_mem_cons.mpr ⟨rfl, (List.forall_mem_cons.mpr ⟨rfl, fun _ h => nomatch h⟩)⟩) rfl dX1_tellOrder_44 aw_kt (aw_kq ?_)
    cases hf : fndO R6 dn 0 6 with
    | none =>
      show AW G fX1_tellOrder 0 0 (w.set h (.inl (0, 6, .inl td))) 47 _ [.int (-1)] _
      refine r_istore_n (pc := 47) dX1_tellOrder_47 rfl (Nat.le_of_ble_eq_true rfl) rfl ?_
      refine r_aload_n (pc := 48) dX1_tellOrder_48 rfl rfl ?_
      refine g_X1_17 (pc := 49) rfl (hA1 td) rfl dX1_tellOrder_49 ?_
      refine r_iload_n (pc := 52) dX1_tellOrder_52 rfl rfl ?_
      refine r_iload_n (pc := 53) dX1_tellOrder_53 rfl rfl ?_
      refine r_iastore (pc := 54) (w' := w.set h (.inl (0, 6, .inl (upd td p (-1))))) (htd1 td) (vp_in_nI (n := p) hp (Nat.le_of_ble_eq_true rfl)) dX1_tellOrder_54 (by rw [nI_clamp (by omega), List.set_set]) ?_
      refine r_iload_n (pc := 55) dX1_tellOrder_55 rfl rfl ?_
      refine r_iload_n (pc := 56) dX1_tellOrder_56 rfl rfl ?_
      refine r_iconst (pc := 57) (v := -1) dX1_tellOrder_57 (by decide) ?_
      refine r_icmp_ne (pc := 58) (tgt := 65) dX1_tellOrder_58 (by decide) (fun h => absurd rfl h) (fun h58 => ?_)
      refine r_iload_n (pc := 61) dX1_tellOrder_61 rfl rfl ?_
      refine r_goto (pc := 62) (tgt := 70) dX1_tellOrder_62 (by decide) ?_
      refine r_iand (pc := 70) dX1_tellOrder_70 ?_
      refine r_istore_n (pc := 71) dX1_tellOrder_71 rfl (Nat.le_of_ble_eq_true rfl) rfl ?_
      refine r_iincK (pc := 72) (k9 := 1) dX1_tellOrder_72 (by decide) rfl (Nat.le_of_ble_eq_true rfl) rfl ?_
      refine r_goto (pc := 75) (tgt := 36) dX1_tellOrder_75 (by decide) ?_
      refine AW_drop 3 rfl ?_
      rw [show wt &&& wt = wt from b_ext (fun i _ => by rw [b_and, Bool.and_self]), nI_1]
      refine ih (p + 1) dn acc wt _ (by omega) hwt (by omega) ?_ (by rw [← hL, ordO, hf]) (Or.inr hf)
      intro j hj
      by_cases e : j = p
      · subst e; rw [upd_s, List.getElem?_eq_none (by omega)]; rfl
      · rw [upd_n _ _ e]; exact hacc j (by omega)
    | some k =>
      have hk6 : k < 6 := by have := fndO_lt 6 0 k hf; omega
      have hap : acc.length = p := by
        rcases hor with z | z
        · exact z
        · rw [hf] at z; cases z
      have hap' : p = acc.length := hap.symm
      show AW G fX1_tellOrder 0 0 (w.set h (.inl (0, 6, .inl td))) 47 _ [.int (nI k)] _
      refine r_istore_n (pc := 47) dX1_tellOrder_47 rfl (Nat.le_of_ble_eq_true rfl) rfl ?_
      refine r_aload_n (pc := 48) dX1_tellOrder_48 rfl rfl ?_
      refine g_X1_17 (pc := 49) rfl (hA1 td) rfl dX1_tellOrder_49 ?_
      refine r_iload_n (pc := 52) dX1_tellOrder_52 rfl rfl ?_
      refine r_iload_n (pc := 53) dX1_tellOrder_53 rfl rfl ?_
      refine r_iastore (pc := 54) (w' := w.set h (.inl (0, 6, .inl (upd td p (nI k))))) (htd1 td) (vp_in_nI (n := p) hp (Nat.le_of_ble_eq_true rfl)) dX1_tellOrder_54 (by rw [nI_clamp (by omega), List.set_set]) ?_
      refine r_iload_n (pc := 55) dX1_tellOrder_55 rfl rfl ?_
      refine r_iload_n (pc := 56) dX1_tellOrder_56 rfl rfl ?_
      refine r_iconst (pc := 57) (v := -1) dX1_tellOrder_57 (by decide) ?_
      refine r_icmp_ne (pc := 58) (tgt := 65) dX1_tellOrder_58 (by decide) (fun h58 => ?_) (fun h => absurd h (nI_neg1 (by omega)))
      refine r_iconst (pc := 65) (v := 1) dX1_tellOrder_65 (by decide) ?_
      refine r_iload_n (pc := 66) dX1_tellOrder_66 rfl rfl ?_
      refine r_ishl (pc := 67) dX1_tellOrder_67 ?_
      refine r_iconst (pc := 68) (v := -1) dX1_tellOrder_68 (by decide) ?_
      refine r_ixor (pc := 69) dX1_tellOrder_69 ?_
      refine r_iand (pc := 70) dX1_tellOrder_70 ?_
      refine r_istore_n (pc := 71) dX1_tellOrder_71 rfl (Nat.le_of_ble_eq_true rfl) rfl ?_
      refine r_iincK (pc := 72) (k9 := 1) dX1_tellOrder_72 (by decide) rfl (Nat.le_of_ble_eq_true rfl) rfl ?_
      refine r_goto (pc := 75) (tgt := 36) dX1_tellOrder_75 (by decide) ?_
      refine AW_drop 3 rfl ?_
      rw [nI_1]
      refine ih (p + 1) (dn ||| b1 k) (acc ++ [k]) _ _ (by omega) (wtB_clr hwt hk6) (by simp; omega) ?_ (by rw [← hL, ordO, hf]) (Or.inl (by simp; omega))
      intro j hj
      by_cases e : j = p
      · subst e; rw [upd_s, hap', List.getElem?_append_right (by omega), Nat.sub_self]; rfl
      · rw [upd_n _ _ e, List.getElem?_append_left (by omega)]; exact hacc j (by omega)
set_option maxRecDepth 100000 in
set_option maxHeartbeats 4000000 in
theorem ac_tellOrder {G : aw_G} {ow : Nat → Nat} {w : List va_E} {t a y q o h : Nat} {ty : Nat → Int32} {R6 : Nat → List Int32} {gd : Nat → Option Nat} (hM : FM ow w t a y q o h ty R6 gd) (ht : t ≠ 1) (h0 : t ≠ 0) (hqh : q ≠ h) (hok : ∀ k, k < 6 → okL (R6 k)) : AM G fX1_tellOrder [.ref a] w (toQ w h (ordO R6 6 0 [])) := by
  refine AM_of (by decide) rfl rfl (Nat.le_of_ble_eq_true rfl) ?_
  show AW G fX1_tellOrder 0 0 w 0 [some (.ref a), none, none, none] [] _
  refine r_iconst (pc := 0) (v := 0) dX1_tellOrder_0 (by decide) ?_
  refine r_istore_n (pc := 1) dX1_tellOrder_1 rfl (Nat.le_of_ble_eq_true rfl) rfl ?_
  refine r_iconst (pc := 2) (v := 0) dX1_tellOrder_2 (by decide) ?_
  refine r_istore_n (pc := 3) dX1_tellOrder_3 rfl (Nat.le_of_ble_eq_true rfl) rfl ?_
  refine tol_loop1 hM (fun wt hwt => ?_) 6 0 0 rfl (fun j hj => by rw [bitI_0 hj, decide_eq_false (Nat.not_lt_zero _), Bool.false_and])
  obtain ⟨td, htd⟩ := hM.2.2.2.2
  have hws : w = w.set h (.inl (0, 6, .inl td)) := (List.ext_getElem? (fun j => by
    by_cases e : h = j
    · subst e; rw [List.getElem?_set_self (lt_of_at htd.2), htd.2]
    · rw [List.getElem?_set_ne e]))
  have hgo := tol_loop2 (G := G) hM ht h0 hqh hok (ordO R6 6 0 []) 6 0 0 [] wt td rfl hwt (Nat.zero_le _) (fun j hj => absurd hj (Nat.not_lt_zero _)) rfl (Or.inl rfl)
  rw [← hws] at hgo
  exact hgo

set_option maxRecDepth 100000 in
set_option maxHeartbeats 4000000 in
theorem wc_loop1 {G : aw_G} {ow : Nat → Nat} {t a y q o h : Nat} {ty : Nat → Int32} {R6 : Nat → List Int32} {gd : Nat → Option Nat} {w : List va_E} (hM : FM ow w t a y q o h ty R6 gd) {n f r : Nat} (hn : n < 10) (hok : ∀ k, k < 6 → okL (R6 k)) {Q : aw_R → List va_E → Prop} {v : Int32} (kk : AW G fX1_wouldCircle 0 0 w 63 [some (.ref a), some (.int (nI n)), some (.ref f), some (.int v), some (.int (nI r)), none] [] Q) : ∀ (m k : Nat) (s : Int32), k + m = 6 → rcI R6 n k m s = v → AW G fX1_wouldCircle 0 0 w 26 [some (.ref a), some (.int (nI n)), some (.ref f), some (.int s), some (.int (nI r)), some (.int (nI k))] [] Q := by
  intro m
  induction m with
  | zero =>
    intro k s hk hv
    refine r_iload (pc := 26) dX1_wouldCircle_26 rfl ?_
    refine r_bipush (pc := 28) (v := 6) dX1_wouldCircle_28 (by decide) ?_
    refine r_icmp_ge (pc := 30) (tgt := 63) dX1_wouldCircle_30 (by decide) (fun h30 => ?_) (fun h => absurd (by rw [show k = 6 by omega]; decide) h)
    refine AW_drop 5 rfl ?_
    have hv9 : s = v := hv
    subst hv9
    exact kk
  | succ m ih =>
    intro k s hkm hv
    have hk : k < 6 := by omega
    refine r_iload (pc := 26) dX1_wouldCircle_26 rfl ?_
    refine r_bipush (pc := 28) (v := 6) dX1_wouldCircle_28 (by decide) ?_
    refine r_icmp_ge (pc := 30) (tgt := 63) dX1_wouldCircle_30 (by decide) (fun h => absurd h (nI_ge9 hk (by decide))) (fun h30 => ?_)
    refine r_iload (pc := 33) dX1_wouldCircle_33 rfl ?_
    refine r_iload_n (pc := 35) dX1_wouldCircle_35 rfl rfl ?_
    refine r_icmp_eq (pc := 36) (tgt := 57) dX1_wouldCircle_36 (by decide) (fun h36 => ?_) (fun h36 => ?_)
    · refine r_iincK (pc := 57) (k9 := 1) dX1_wouldCircle_57 (by decide) rfl (Nat.le_of_ble_eq_true rfl) rfl ?_
      refine r_goto (pc := 60) (tgt := 26) dX1_wouldCircle_60 (by decide) ?_
      rw [nI_1]
      refine ih (k + 1) _ (by omega) ?_
      rw [← hv, rcI, if_neg (fun z => z.2 ((nI_eq (by omega) (by omega)).mp h36))]
    · refine r_iload_n (pc := 39) dX1_wouldCircle_39 rfl rfl ?_
      refine r_iload (pc := 40) dX1_wouldCircle_40 rfl ?_
      refine s_X1_62 (pc := 42) (kc' := 0) (ks' := 0) rfl rfl (ac_isIn _ _)  (Nat.le_of_ble_eq_true rfl) (Nat.le_of_ble_eq_true rfl) (Nat.le_of_ble_eq_true rfl) (Nat.le_of_ble_eq_true rfl) (by exact (Nat.le_of_ble_eq_true rfl)) rfl (List.forall_mem_cons.mpr ⟨rfl, (List.forall_mem_cons.mpr ⟨rfl, fun _ h => nomatch h⟩)⟩) rfl dX1_wouldCircle_42 aw_kt (aw_kq ?_)
      refine r_if_eq (pc := 45) (tgt := 57) dX1_wouldCircle_45 (by decide) (fun h45 => ?_) (fun h45 => ?_)
      · refine r_iincK (pc := 57) (k9 := 1) dX1_wouldCircle_57 (by decide) rfl (Nat.le_of_ble_eq_true rfl) rfl ?_
        refine r_goto (pc := 60) (tgt := 26) dX1_wouldCircle_60 (by decide) ?_
        rw [nI_1]
        refine ih (k + 1) _ (by omega) ?_
        rw [← hv, rcI, if_neg (fun z => absurd z.1 (by rw [bi_eq.mp h45]; decide))]
      · refine r_iload_n (pc := 48) dX1_wouldCircle_48 rfl rfl ?_
        refine r_aload_n (pc := 49) dX1_wouldCircle_49 rfl rfl ?_
        refine r_iload (pc := 50) dX1_wouldCircle_50 rfl ?_
        refine s_X1_66 (pc := 52) (kc' := 0) (ks' := 0) rfl rfl (ac_lettersAt hM (k := k) (by omega)) hM.1.2 (Nat.le_of_ble_eq_true rfl) (Nat.le_of_ble_eq_true rfl) (Nat.le_of_ble_eq_true rfl) (Nat.le_of_ble_eq_true rfl) (by exact (Nat.le_of_ble_eq_true rfl)) rfl (List.forall_mem_cons.mpr ⟨rfl, (List.forall_mem_cons.mpr ⟨rfl, fun _ h => nomatch h⟩)⟩) rfl dX1_wouldCircle_52 aw_kt (aw_kq ?_)
        refine r_ior (pc := 55) dX1_wouldCircle_55 ?_
        refine r_istore_n (pc := 56) dX1_wouldCircle_56 rfl (Nat.le_of_ble_eq_true rfl) rfl ?_
        refine r_iincK (pc := 57) (k9 := 1) dX1_wouldCircle_57 (by decide) rfl (Nat.le_of_ble_eq_true rfl) rfl ?_
        refine r_goto (pc := 60) (tgt := 26) dX1_wouldCircle_60 (by decide) ?_
        rw [msk_lmU (hok k hk) s]
        rw [nI_1]
        refine ih (k + 1) _ (by omega) ?_
        rw [← hv, rcI, if_pos ⟨bi_ne.mp h45, fun z => h36 (congrArg nI z)⟩]
set_option maxRecDepth 100000 in
set_option maxHeartbeats 4000000 in
theorem wc_loop2 {G : aw_G} {ow : Nat → Nat} {t a y q o h : Nat} {ty : Nat → Int32} {R6 : Nat → List Int32} {gd : Nat → Option Nat} {w : List va_E} (hM : FM ow w t a y q o h ty R6 gd) {n f : Nat} (hn : n < 10) (hok : ∀ k, k < 6 → okL (R6 k)) (v : Int32) : ∀ (m r : Nat) (s : Int32), r + m = 6 → rcR R6 n m s = v → AW G fX1_wouldCircle 0 0 w 16 [some (.ref a), some (.int (nI n)), some (.ref f), some (.int s), some (.int (nI r)), none] [] (qx (.inl (some (.int (bi (bitI v n))))) w) := by
  intro m
  induction m with
  | zero =>
    intro r s hr hv
    refine r_iload (pc := 16) dX1_wouldCircle_16 rfl ?_
    refine r_bipush (pc := 18) (v := 6) dX1_wouldCircle_18 (by decide) ?_
    refine r_icmp_ge (pc := 20) (tgt := 69) dX1_wouldCircle_20 (by decide) (fun h20 => ?_) (fun h => absurd (by rw [show r = 6 by omega]; decide) h)
    refine r_iload_n (pc := 69) dX1_wouldCircle_69 rfl rfl ?_
    refine r_iload_n (pc := 70) dX1_wouldCircle_70 rfl rfl ?_
    refine s_X1_62 (pc := 71) (kc' := 0) (ks' := 0) rfl rfl (ac_isIn _ _)  (Nat.le_of_ble_eq_true rfl) (Nat.le_of_ble_eq_true rfl) (Nat.le_of_ble_eq_true rfl) (Nat.le_of_ble_eq_true rfl) (by exact (Nat.le_of_ble_eq_true rfl)) rfl (List.forall_mem_cons.mpr ⟨rfl, (List.forall_mem_cons.mpr ⟨rfl, fun _ h => nomatch h⟩)⟩) rfl dX1_wouldCircle_71 aw_kt (aw_kq ?_)
    refine r_iret (pc := 74) rfl (bi_nar _) dX1_wouldCircle_74 ?_
    exact ⟨by rw [← hv]; rfl, rfl⟩
  | succ m ih =>
    intro r s hrm hv
    have hr : r < 6 := by omega
    refine r_iload (pc := 16) dX1_wouldCircle_16 rfl ?_
    refine r_bipush (pc := 18) (v := 6) dX1_wouldCircle_18 (by decide) ?_
    refine r_icmp_ge (pc := 20) (tgt := 69) dX1_wouldCircle_20 (by decide) (fun h => absurd h (nI_ge9 hr (by decide))) (fun h20 => ?_)
    refine r_iconst (pc := 23) (v := 0) dX1_wouldCircle_23 (by decide) ?_
    refine r_istore (pc := 24) dX1_wouldCircle_24 (Nat.le_of_ble_eq_true rfl) rfl ?_
    refine wc_loop1 hM hn hok ?_ 6 0 s rfl rfl
    refine r_iincK (pc := 63) (k9 := 1) dX1_wouldCircle_63 (by decide) rfl (Nat.le_of_ble_eq_true rfl) rfl ?_
    refine r_goto (pc := 66) (tgt := 16) dX1_wouldCircle_66 (by decide) ?_
    rw [nI_1]
    exact ih (r + 1) _ (by omega) (by rw [← hv, rcR])
set_option maxRecDepth 100000 in
set_option maxHeartbeats 4000000 in
theorem ac_wouldCircle {G : aw_G} {ow : Nat → Nat} {w : List va_E} {t a y q o h : Nat} {ty : Nat → Int32} {R6 : Nat → List Int32} {gd : Nat → Option Nat} (hM : FM ow w t a y q o h ty R6 gd) {n f : Nat} {row : List Int32} (hn : n < 10) (hF : FP ow w f row) (hok : ∀ k, k < 6 → okL (R6 k)) : AM G fX1_wouldCircle [.ref a, .int (nI n), .ref f] w (qx (.inl (some (.int (bi (decide (n < 6 ∧ bitI (rcR R6 n 6 (msk 0 row)) n = true)))))) w) := by
  refine AM_of (by decide) rfl rfl (Nat.le_of_ble_eq_true rfl) ?_
  show AW G fX1_wouldCircle 0 0 w 0 [some (.ref a), some (.int (nI n)), some (.ref f), none, none, none] [] _
  refine r_iload_n (pc := 0) dX1_wouldCircle_0 rfl rfl ?_
  refine r_bipush (pc := 1) (v := 6) dX1_wouldCircle_1 (by decide) ?_
  refine r_icmp_lt (pc := 3) (tgt := 8) dX1_wouldCircle_3 (by decide) (fun h3 => ?_) (fun h3 => ?_)
  · refine r_aload_n (pc := 8) dX1_wouldCircle_8 rfl rfl ?_
    refine s_X1_58 (pc := 9) (kc' := 0) (ks' := 0) rfl rfl (ac_letterSet (m := 0) (pl := fun _ => 0) hF.2.2.2.1.2) hF.2.2.2.1.2 (Nat.le_of_ble_eq_true rfl) (Nat.le_of_ble_eq_true rfl) (Nat.le_of_ble_eq_true rfl) (Nat.le_of_ble_eq_true rfl) (by exact (Nat.le_of_ble_eq_true rfl)) rfl (List.forall_mem_cons.mpr ⟨rfl, fun _ h => nomatch h⟩) rfl dX1_wouldCircle_9 aw_kt (aw_kq ?_)
    refine r_istore_n (pc := 12) dX1_wouldCircle_12 rfl (Nat.le_of_ble_eq_true rfl) rfl ?_
    refine r_iconst (pc := 13) (v := 0) dX1_wouldCircle_13 (by decide) ?_
    refine r_istore (pc := 14) dX1_wouldCircle_14 (Nat.le_of_ble_eq_true rfl) rfl ?_
    have hn6 : n < 6 := (nI_ltI (a := n) (b := 6) (by omega) (by decide)).mp h3
    have hb : decide (n < 6 ∧ bitI (rcR R6 n 6 (msk 0 row)) n = true) = bitI (rcR R6 n 6 (msk 0 row)) n := by
      cases hc : bitI (rcR R6 n 6 (msk 0 row)) n with
      | true => exact decide_eq_true ⟨hn6, rfl⟩
      | false => exact decide_eq_false (fun z => by cases z.2)
    rw [hb]
    exact wc_loop2 hM hn hok _ 6 0 _ rfl rfl
  · refine r_iconst (pc := 6) (v := 0) dX1_wouldCircle_6 (by decide) ?_
    refine r_iret (pc := 7) rfl rfl dX1_wouldCircle_7 ?_
    exact ⟨by rw [show decide (n < 6 ∧ bitI (rcR R6 n 6 (msk 0 row)) n = true) = false from decide_eq_false (fun z => h3 (nI_lt (b := 6) z.1 (by decide)))]; rfl, rfl⟩

end S21
