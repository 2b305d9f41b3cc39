/-! ===== the class: what its calls require ===== -/
def kq (ow ow' : Nat → Nat) (w w' : List va_E) : Prop := w.length ≤ w'.length ∧ (∀ i, i < w.length → ow' i = ow i) ∧ ∀ (i : Nat) (e : va_E), (ow i = 6 ∨ ow i = 7) → w[i]? = some e → w'[i]? = some e
theorem kp_kq {ow ow' : Nat → Nat} {ts : List Nat} {w w' : List va_E} (h : kp ow ow' ts w w') (h6 : 6 ∉ ts) (h7 : 7 ∉ ts) : kq ow ow' w w' := ⟨h.1, h.2.1, fun i e ho hw => h.2.2.1 i e (by rcases ho with z | z <;> rw [z] <;> assumption) hw⟩
theorem kq_rf {ow : Nat → Nat} {w : List va_E} : kq ow ow w w := ⟨Nat.le_refl _, fun _ _ => rfl, fun _ _ _ h => h⟩
theorem kq_tr {ow ow' ow2 : Nat → Nat} {w w' w2 : List va_E} (h : kq ow ow' w w') (h2 : kq ow' ow2 w' w2) : kq ow ow2 w w2 := ⟨Nat.le_trans h.1 h2.1, fun i hi => (h2.2.1 i (Nat.lt_of_lt_of_le hi h.1)).trans (h.2.1 i hi), fun i e ho hw => h2.2.2 i e (by rw [h.2.1 i (lt_of_at hw)]; exact ho) (h.2.2 i e ho hw)⟩
/-- a call of FormWright's: what it answers, and the cells that it leaves -/
def xq (ow : Nat → Nat) (w : List va_E) (Z : aw_R → (Nat → Nat) → List va_E → Prop) : aw_R → List va_E → Prop := fun r w' => ∃ ow' : Nat → Nat, kq ow ow' w w' ∧ Z r ow' w'
theorem aw_tX {E0 : String} {w w2 : List va_E} {Q : aw_R → List va_E → Prop} (h : Q (.inr E0) w2) : ∀ (E : String) (w' : List va_E), qx (.inr E0) w2 (.inr E) w' → w.length ≤ w'.length → Q (.inr E) w' := by
  rintro E w' ⟨e, rfl⟩ -
  cases e
  exact h
theorem aw_kX {G : aw_G} {F : aw_F} {kc ks : Nat} {E0 : String} {w w2 : List va_E} {pc : Nat} {loc : List (Option Value)} {rest : List Value} {Q : aw_R → List va_E → Prop} : ∀ (r : Option Value) (w' : List va_E), qx (.inr E0) w2 (.inl r) w' → w.length ≤ w'.length → AW G F kc ks w' pc loc (r.toList ++ rest) Q := by
  rintro r w' ⟨e, -⟩
  cases e
theorem i_pred {x : Int32} {n : Nat} (h0 : ¬ x < 0) (hn : n + 1 < 2 ^ 31) (h : x < nI (n + 1)) : 0 ≤ x ∧ x ≤ nI n := by
  obtain ⟨j, hj, rfl⟩ := nI_of h0
  have := (nI_ltI hj hn).mp h
  exact ⟨nI_pos' hj, (nI_leI hj (by omega)).mpr (by omega)⟩
theorem inV_lt {x : Int32} {n : Nat} (h0 : ¬ x < 0) (hn : n ≤ 20) (h : ¬ x ≥ nI n) : 0 ≤ x ∧ x ≤ nI n - 1 := by
  obtain ⟨j, hj, rfl⟩ := nI_of h0
  exact inV_of (nI_lt9 hj h) hn
section S27
set_option maxRecDepth 100000 in
set_option maxHeartbeats 4000000 in
theorem ac_requireField {G : aw_G} {w : List va_E} {j : Nat} (hj : j < 6) : AM G fX7_requireField [.int (nI j)] w (qx (.inl none) w) := by
  refine AM_of (by decide) rfl rfl (Nat.le_of_ble_eq_true rfl) ?_
  show AW G fX7_requireField 1 6 w 0 [some (.int (nI j))] [] _
  refine r_iload_n (pc := 0) dX7_requireField_0 rfl rfl ?_
  refine r_if_lt (pc := 1) (tgt := 10) dX7_requireField_1 (by decide) (fun h => absurd h (nI_pos (by omega))) (fun h1 => ?_)
  refine r_iload_n (pc := 4) dX7_requireField_4 rfl rfl ?_
  refine r_bipush (pc := 5) (v := 6) dX7_requireField_5 (by decide) ?_
  refine r_icmp_lt (pc := 7) (tgt := 20) dX7_requireField_7 (by decide) (fun h7 => ?_) (fun h => absurd (nI_lt hj (by decide)) h)
  refine r_vret (pc := 20) rfl dX7_requireField_20 ?_
  exact ⟨rfl, rfl⟩

set_option maxRecDepth 100000 in
set_option maxHeartbeats 4000000 in
theorem ac_requireFieldX {G : aw_G} {w : List va_E} {x : Int32} (hb : ¬ (0 ≤ x ∧ x ≤ 5)) : AM G fX7_requireField [.int x] w (qx (.inr "java/lang/IndexOutOfBoundsException") w) := by
  refine AM_of (by decide) rfl rfl (Nat.le_of_ble_eq_true rfl) ?_
  show AW G fX7_requireField 1 6 w 0 [some (.int x)] [] _
  refine r_iload_n (pc := 0) dX7_requireField_0 rfl rfl ?_
  refine r_if_lt (pc := 1) (tgt := 10) dX7_requireField_1 (by decide) (fun h1 => ?_) (fun h1 => ?_)
  · refine t_ioo (pc := 10) (text := "no such field") rfl rfl (by decide) dX7_requireField_10 dX7_requireField_13 dX7_requireField_14 dX7_requireField_16 dX7_requireField_19 (Nat.le_of_ble_eq_true rfl) (Nat.le_of_ble_eq_true rfl) (Nat.le_of_ble_eq_true rfl) (Nat.le_of_ble_eq_true rfl) ?_
    exact ⟨rfl, rfl⟩
  · refine r_iload_n (pc := 4) dX7_requireField_4 rfl rfl ?_
    refine r_bipush (pc := 5) (v := 6) dX7_requireField_5 (by decide) ?_
    refine r_icmp_lt (pc := 7) (tgt := 20) dX7_requireField_7 (by decide) (fun h7 => ?_) (fun h7 => ?_)
    · exact absurd (i_pred (n := 5) h1 (by decide) h7) hb
    · refine t_ioo (pc := 10) (text := "no such field") rfl rfl (by decide) dX7_requireField_10 dX7_requireField_13 dX7_requireField_14 dX7_requireField_16 dX7_requireField_19 (Nat.le_of_ble_eq_true rfl) (Nat.le_of_ble_eq_true rfl) (Nat.le_of_ble_eq_true rfl) (Nat.le_of_ble_eq_true rfl) ?_
      exact ⟨rfl, rfl⟩

set_option maxRecDepth 100000 in
set_option maxHeartbeats 4000000 in
theorem ac_requireFormula {G : aw_G} {w : List va_E} {j : Nat} (hj : j < 10) : AM G fX7_requireFormula [.int (nI j)] w (qx (.inl none) w) := by
  refine AM_of (by decide) rfl rfl (Nat.le_of_ble_eq_true rfl) ?_
  show AW G fX7_requireFormula 1 6 w 0 [some (.int (nI j))] [] _
  refine r_iload_n (pc := 0) dX7_requireFormula_0 rfl rfl ?_
  refine r_if_lt (pc := 1) (tgt := 10) dX7_requireFormula_1 (by decide) (fun h => absurd h (nI_pos (by omega))) (fun h1 => ?_)
  refine r_iload_n (pc := 4) dX7_requireFormula_4 rfl rfl ?_
  refine r_bipush (pc := 5) (v := 10) dX7_requireFormula_5 (by decide) ?_
  refine r_icmp_lt (pc := 7) (tgt := 20) dX7_requireFormula_7 (by decide) (fun h7 => ?_) (fun h => absurd (nI_lt hj (by decide)) h)
  refine r_vret (pc := 20) rfl dX7_requireFormula_20 ?_
  exact ⟨rfl, rfl⟩

set_option maxRecDepth 100000 in
set_option maxHeartbeats 4000000 in
theorem ac_requireFormulaX {G : aw_G} {w : List va_E} {x : Int32} (hb : ¬ (0 ≤ x ∧ x ≤ 9)) : AM G fX7_requireFormula [.int x] w (qx (.inr "java/lang/IndexOutOfBoundsException") w) := by
  refine AM_of (by decide) rfl rfl (Nat.le_of_ble_eq_true rfl) ?_
  show AW G fX7_requireFormula 1 6 w 0 [some (.int x)] [] _
  refine r_iload_n (pc := 0) dX7_requireFormula_0 rfl rfl ?_
  refine r_if_lt (pc := 1) (tgt := 10) dX7_requireFormula_1 (by decide) (fun h1 => ?_) (fun h1 => ?_)
  · refine t_ioo (pc := 10) (text := "no such formula") rfl rfl (by decide) dX7_requireFormula_10 dX7_requireFormula_13 dX7_requireFormula_14 dX7_requireFormula_16 dX7_requireFormula_19 (Nat.le_of_ble_eq_true rfl) (Nat.le_of_ble_eq_true rfl) (Nat.le_of_ble_eq_true rfl) (Nat.le_of_ble_eq_true rfl) ?_
    exact ⟨rfl, rfl⟩
  · refine r_iload_n (pc := 4) dX7_requireFormula_4 rfl rfl ?_
    refine r_bipush (pc := 5) (v := 10) dX7_requireFormula_5 (by decide) ?_
    refine r_icmp_lt (pc := 7) (tgt := 20) dX7_requireFormula_7 (by decide) (fun h7 => ?_) (fun h7 => ?_)
    · exact absurd (i_pred (n := 9) h1 (by decide) h7) hb
    · refine t_ioo (pc := 10) (text := "no such formula") rfl rfl (by decide) dX7_requireFormula_10 dX7_requireFormula_13 dX7_requireFormula_14 dX7_requireFormula_16 dX7_requireFormula_19 (Nat.le_of_ble_eq_true rfl) (Nat.le_of_ble_eq_true rfl) (Nat.le_of_ble_eq_true rfl) (Nat.le_of_ble_eq_true rfl) ?_
      exact ⟨rfl, rfl⟩

set_option maxRecDepth 100000 in
set_option maxHeartbeats 4000000 in
theorem ac_requirePlace {G : aw_G} {w : List va_E} {x : Int32} (hx : 0 ≤ x) : AM G fX7_requirePlace [.int x] w (qx (.inl none) w) := by
  refine AM_of (by decide) rfl rfl (Nat.le_of_ble_eq_true rfl) ?_
  show AW G fX7_requirePlace 1 6 w 0 [some (.int x)] [] _
  refine r_iload_n (pc := 0) dX7_requirePlace_0 rfl rfl ?_
  refine r_if_ge (pc := 1) (tgt := 14) dX7_requirePlace_1 (by decide) (fun h1 => ?_) (fun h => absurd hx h)
  refine r_vret (pc := 14) rfl dX7_requirePlace_14 ?_
  exact ⟨rfl, rfl⟩

set_option maxRecDepth 100000 in
set_option maxHeartbeats 4000000 in
theorem ac_requirePlaceX {G : aw_G} {w : List va_E} {x : Int32} (hx : ¬ 0 ≤ x) : AM G fX7_requirePlace [.int x] w (qx (.inr "java/lang/IndexOutOfBoundsException") w) := by
  refine AM_of (by decide) rfl rfl (Nat.le_of_ble_eq_true rfl) ?_
  show AW G fX7_requirePlace 1 6 w 0 [some (.int x)] [] _
  refine r_iload_n (pc := 0) dX7_requirePlace_0 rfl rfl ?_
  refine r_if_ge (pc := 1) (tgt := 14) dX7_requirePlace_1 (by decide) (fun h => absurd h hx) (fun h1 => ?_)
  refine t_ioo (pc := 4) (text := "no such place") rfl rfl (by decide) dX7_requirePlace_4 dX7_requirePlace_7 dX7_requirePlace_8 dX7_requirePlace_10 dX7_requirePlace_13 (Nat.le_of_ble_eq_true rfl) (Nat.le_of_ble_eq_true rfl) (Nat.le_of_ble_eq_true rfl) (Nat.le_of_ble_eq_true rfl) ?_
  exact ⟨rfl, rfl⟩

set_option maxRecDepth 100000 in
set_option maxHeartbeats 4000000 in
theorem ax_requireVersion {G : aw_G} {w : List va_E} {vn an : Nat} (h00 : w[0]? = some (c0W vn an)) (hn : vn ≤ 10) {v a : Nat} (hv : v < vn) (hq : PBq w v a) : AM G fX7_requireVersion [.ref 0, .int (nI v)] w (qx (.inl (some (.ref a))) w) := by
  refine AM_of (by decide) rfl rfl (Nat.le_of_ble_eq_true rfl) ?_
  show AW G fX7_requireVersion 1 6 w 0 [some (.ref 0), some (.int (nI v)), none] [] _
  obtain ⟨pv, hq1, hq2⟩ := hq
  have hv9 : v < 10 := by omega
  refine r_iload_n (pc := 0) dX7_requireVersion_0 rfl rfl ?_
  refine r_if_lt (pc := 1) (tgt := 27) dX7_requireVersion_1 (by decide) (fun h => absurd h (nI_pos (by omega))) (fun h1 => ?_)
  refine r_iload_n (pc := 4) dX7_requireVersion_4 rfl rfl ?_
  refine r_aload_n (pc := 5) dX7_requireVersion_5 rfl rfl ?_
  refine g_X7_27 (pc := 6) rfl h00 rfl dX7_requireVersion_6 ?_
  refine r_icmp_ge (pc := 9) (tgt := 27) dX7_requireVersion_9 (by decide) (fun h => absurd h (nI_ge9 hv (by omega))) (fun h9 => ?_)
  refine r_iload_n (pc := 12) dX7_requireVersion_12 rfl rfl ?_
  refine r_bipush (pc := 13) (v := 10) dX7_requireVersion_13 (by decide) ?_
  refine r_icmp_ge (pc := 15) (tgt := 27) dX7_requireVersion_15 (by decide) (fun h => absurd h (nI_ge9 hv9 (by decide))) (fun h15 => ?_)
  refine r_aload_n (pc := 18) dX7_requireVersion_18 rfl rfl ?_
  refine g_X7_23 (pc := 19) rfl h00 rfl dX7_requireVersion_19 ?_
  refine r_iload_n (pc := 22) dX7_requireVersion_22 rfl rfl ?_
  refine r_aaload (pc := 23) (t := 4) (fun _ => rfl) hq1 (vp_in_nI (n := v) hv9 (Nat.le_of_ble_eq_true rfl)) dX7_requireVersion_23 ?_
  rw [nI_clamp (by omega), hq2]
  refine r_goto (pc := 24) (tgt := 28) dX7_requireVersion_24 (by decide) ?_
  refine r_astore_n (pc := 28) dX7_requireVersion_28 rfl (Nat.le_of_ble_eq_true rfl) rfl ?_
  refine r_aload_n (pc := 29) dX7_requireVersion_29 rfl rfl ?_
  refine r_ifnonnull (pc := 30) (tgt := 43) dX7_requireVersion_30 (by decide) ?_
  refine r_aload_n (pc := 43) dX7_requireVersion_43 rfl rfl ?_
  refine r_aret (pc := 44) rfl (Or.inl ⟨_, rfl⟩) (Or.inr ⟨_, rfl⟩) dX7_requireVersion_44 ?_
  exact ⟨rfl, rfl⟩

set_option maxRecDepth 100000 in
set_option maxHeartbeats 4000000 in
theorem ax_requireVersionX {G : aw_G} {w : List va_E} {vn an : Nat} (h00 : w[0]? = some (c0W vn an)) (hn : vn ≤ 10) {x : Int32} (hb : ¬ (0 ≤ x ∧ x ≤ nI vn - 1)) : AM G fX7_requireVersion [.ref 0, .int x] w (qx (.inr "java/lang/IndexOutOfBoundsException") w) := by
  refine AM_of (by decide) rfl rfl (Nat.le_of_ble_eq_true rfl) ?_
  show AW G fX7_requireVersion 1 6 w 0 [some (.ref 0), some (.int x), none] [] _
  refine r_iload_n (pc := 0) dX7_requireVersion_0 rfl rfl ?_
  refine r_if_lt (pc := 1) (tgt := 27) dX7_requireVersion_1 (by decide) (fun h1 => ?_) (fun h1 => ?_)
  · refine r_null (pc := 27) dX7_requireVersion_27 ?_
    refine r_astore_nN (pc := 28) dX7_requireVersion_28 rfl (Nat.le_of_ble_eq_true rfl) rfl ?_
    refine r_aload_nN (pc := 29) dX7_requireVersion_29 rfl rfl ?_
    refine r_ifnonnullN (pc := 30) dX7_requireVersion_30 ?_
    refine t_ioo (pc := 33) (text := "no such version") rfl rfl (by decide) dX7_requireVersion_33 dX7_requireVersion_36 dX7_requireVersion_37 dX7_requireVersion_39 dX7_requireVersion_42 (Nat.le_of_ble_eq_true rfl) (Nat.le_of_ble_eq_true rfl) (Nat.le_of_ble_eq_true rfl) (Nat.le_of_ble_eq_true rfl) ?_
    exact ⟨rfl, rfl⟩
  · refine r_iload_n (pc := 4) dX7_requireVersion_4 rfl rfl ?_
    refine r_aload_n (pc := 5) dX7_requireVersion_5 rfl rfl ?_
    refine g_X7_27 (pc := 6) rfl h00 rfl dX7_requireVersion_6 ?_
    refine r_icmp_ge (pc := 9) (tgt := 27) dX7_requireVersion_9 (by decide) (fun h9 => ?_) (fun h9 => ?_)
    · refine r_null (pc := 27) dX7_requireVersion_27 ?_
      refine r_astore_nN (pc := 28) dX7_requireVersion_28 rfl (Nat.le_of_ble_eq_true rfl) rfl ?_
      refine r_aload_nN (pc := 29) dX7_requireVersion_29 rfl rfl ?_
      refine r_ifnonnullN (pc := 30) dX7_requireVersion_30 ?_
      refine t_ioo (pc := 33) (text := "no such version") rfl rfl (by decide) dX7_requireVersion_33 dX7_requireVersion_36 dX7_requireVersion_37 dX7_requireVersion_39 dX7_requireVersion_42 (Nat.le_of_ble_eq_true rfl) (Nat.le_of_ble_eq_true rfl) (Nat.le_of_ble_eq_true rfl) (Nat.le_of_ble_eq_true rfl) ?_
      exact ⟨rfl, rfl⟩
    · exact absurd (inV_lt h1 (by omega) h9) hb

set_option maxRecDepth 100000 in
set_option maxHeartbeats 4000000 in
theorem ax_requireAnswer {G : aw_G} {w : List va_E} {vn an : Nat} (h00 : w[0]? = some (c0W vn an)) (hn : an ≤ 20) {v a : Nat} (hv : v < an) (hq : ABq w v a) : AM G fX7_requireAnswer [.ref 0, .int (nI v)] w (qx (.inl (some (.ref a))) w) := by
  refine AM_of (by decide) rfl rfl (Nat.le_of_ble_eq_true rfl) ?_
  show AW G fX7_requireAnswer 1 6 w 0 [some (.ref 0), some (.int (nI v)), none] [] _
  obtain ⟨pv, hq1, hq2⟩ := hq
  have hv9 : v < 20 := by omega
  refine r_iload_n (pc := 0) dX7_requireAnswer_0 rfl rfl ?_
  refine r_if_lt (pc := 1) (tgt := 27) dX7_requireAnswer_1 (by decide) (fun h => absurd h (nI_pos (by omega))) (fun h1 => ?_)
  refine r_iload_n (pc := 4) dX7_requireAnswer_4 rfl rfl ?_
  refine r_aload_n (pc := 5) dX7_requireAnswer_5 rfl rfl ?_
  refine g_X7_37 (pc := 6) rfl h00 rfl dX7_requireAnswer_6 ?_
  refine r_icmp_ge (pc := 9) (tgt := 27) dX7_requireAnswer_9 (by decide) (fun h => absurd h (nI_ge9 hv (by omega))) (fun h9 => ?_)
  refine r_iload_n (pc := 12) dX7_requireAnswer_12 rfl rfl ?_
  refine r_bipush (pc := 13) (v := 20) dX7_requireAnswer_13 (by decide) ?_
  refine r_icmp_ge (pc := 15) (tgt := 27) dX7_requireAnswer_15 (by decide) (fun h => absurd h (nI_ge9 hv9 (by decide))) (fun h15 => ?_)
  refine r_aload_n (pc := 18) dX7_requireAnswer_18 rfl rfl ?_
  refine g_X7_33 (pc := 19) rfl h00 rfl dX7_requireAnswer_19 ?_
  refine r_iload_n (pc := 22) dX7_requireAnswer_22 rfl rfl ?_
  refine r_aaload (pc := 23) (t := 6) (fun _ => rfl) hq1 (vp_in_nI (n := v) hv9 (Nat.le_of_ble_eq_true rfl)) dX7_requireAnswer_23 ?_
  rw [nI_clamp (by omega), hq2]
  refine r_goto (pc := 24) (tgt := 28) dX7_requireAnswer_24 (by decide) ?_
  refine r_astore_n (pc := 28) dX7_requireAnswer_28 rfl (Nat.le_of_ble_eq_true rfl) rfl ?_
  refine r_aload_n (pc := 29) dX7_requireAnswer_29 rfl rfl ?_
  refine r_ifnonnull (pc := 30) (tgt := 43) dX7_requireAnswer_30 (by decide) ?_
  refine r_aload_n (pc := 43) dX7_requireAnswer_43 rfl rfl ?_
  refine r_aret (pc := 44) rfl (Or.inl ⟨_, rfl⟩) (Or.inr ⟨_, rfl⟩) dX7_requireAnswer_44 ?_
  exact ⟨rfl, rfl⟩

set_option maxRecDepth 100000 in
set_option maxHeartbeats 4000000 in
theorem ax_requireAnswerX {G : aw_G} {w : List va_E} {vn an : Nat} (h00 : w[0]? = some (c0W vn an)) (hn : an ≤ 20) {x : Int32} (hb : ¬ (0 ≤ x ∧ x ≤ nI an - 1)) : AM G fX7_requireAnswer [.ref 0, .int x] w (qx (.inr "java/lang/IndexOutOfBoundsException") w) := by
  refine AM_of (by decide) rfl rfl (Nat.le_of_ble_eq_true rfl) ?_
  show AW G fX7_requireAnswer 1 6 w 0 [some (.ref 0), some (.int x), none] [] _
  refine r_iload_n (pc := 0) dX7_requireAnswer_0 rfl rfl ?_
  refine r_if_lt (pc := 1) (tgt := 27) dX7_requireAnswer_1 (by decide) (fun h1 => ?_) (fun h1 => ?_)
  · refine r_null (pc := 27) dX7_requireAnswer_27 ?_
    refine r_astore_nN (pc := 28) dX7_requireAnswer_28 rfl (Nat.le_of_ble_eq_true rfl) rfl ?_
    refine r_aload_nN (pc := 29) dX7_requireAnswer_29 rfl rfl ?_
    refine r_ifnonnullN (pc := 30) dX7_requireAnswer_30 ?_
    refine t_ioo (pc := 33) (text := "no such answer") rfl rfl (by decide) dX7_requireAnswer_33 dX7_requireAnswer_36 dX7_requireAnswer_37 dX7_requireAnswer_39 dX7_requireAnswer_42 (Nat.le_of_ble_eq_true rfl) (Nat.le_of_ble_eq_true rfl) (Nat.le_of_ble_eq_true rfl) (Nat.le_of_ble_eq_true rfl) ?_
    exact ⟨rfl, rfl⟩
  · refine r_iload_n (pc := 4) dX7_requireAnswer_4 rfl rfl ?_
    refine r_aload_n (pc := 5) dX7_requireAnswer_5 rfl rfl ?_
    refine g_X7_37 (pc := 6) rfl h00 rfl dX7_requireAnswer_6 ?_
    refine r_icmp_ge (pc := 9) (tgt := 27) dX7_requireAnswer_9 (by decide) (fun h9 => ?_) (fun h9 => ?_)
    · refine r_null (pc := 27) dX7_requireAnswer_27 ?_
      refine r_astore_nN (pc := 28) dX7_requireAnswer_28 rfl (Nat.le_of_ble_eq_true rfl) rfl ?_
      refine r_aload_nN (pc := 29) dX7_requireAnswer_29 rfl rfl ?_
      refine r_ifnonnullN (pc := 30) dX7_requireAnswer_30 ?_
      refine t_ioo (pc := 33) (text := "no such answer") rfl rfl (by decide) dX7_requireAnswer_33 dX7_requireAnswer_36 dX7_requireAnswer_37 dX7_requireAnswer_39 dX7_requireAnswer_42 (Nat.le_of_ble_eq_true rfl) (Nat.le_of_ble_eq_true rfl) (Nat.le_of_ble_eq_true rfl) (Nat.le_of_ble_eq_true rfl) ?_
      exact ⟨rfl, rfl⟩
    · exact absurd (inV_lt h1 (by omega) h9) hb

end S27
