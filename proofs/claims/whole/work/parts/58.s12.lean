/-! ===== the class: letters and plain text of a Formula; sets of fields ===== -/
section S12
set_option maxRecDepth 100000 in
set_option maxHeartbeats 4000000 in
theorem ac_isIn {G : aw_G} {w : List va_E} (x : Int32) (k : Nat) : AM G fX7_isIn [.int x, .int (nI k)] w (qx (.inl (some (.int (bi (bitI x k))))) w) := by
  refine AM_of (by decide) rfl rfl (Nat.le_of_ble_eq_true rfl) ?_
  show AW G fX7_isIn 0 0 w 0 [some (.int x), some (.int (nI k))] [] _
  refine r_iload_n (pc := 0) dX7_isIn_0 rfl rfl ?_
  refine r_iload_n (pc := 1) dX7_isIn_1 rfl rfl ?_
  refine r_ishr (pc := 2) dX7_isIn_2 ?_
  refine r_iconst (pc := 3) (v := 1) dX7_isIn_3 (by decide) ?_
  refine r_iand (pc := 4) dX7_isIn_4 ?_
  refine r_iconst (pc := 5) (v := 1) dX7_isIn_5 (by decide) ?_
  refine r_icmp_ne (pc := 6) (tgt := 13) dX7_isIn_6 (by decide) (fun h6 => ?_) (fun h6 => ?_)
  · refine r_iconst (pc := 13) (v := 0) dX7_isIn_13 (by decide) ?_
    refine r_iret (pc := 14) rfl rfl dX7_isIn_14 ?_
    exact ⟨by rw [show bitI x k = false from decide_eq_false h6]; rfl, rfl⟩
  · refine r_iconst (pc := 9) (v := 1) dX7_isIn_9 (by decide) ?_
    refine r_goto (pc := 10) (tgt := 14) dX7_isIn_10 (by decide) ?_
    refine r_iret (pc := 14) rfl rfl dX7_isIn_14 ?_
    exact ⟨by rw [show bitI x k = true from decide_eq_true h6]; rfl, rfl⟩

set_option maxRecDepth 100000 in
set_option maxHeartbeats 4000000 in
theorem ac_letterSet {G : aw_G} {w : List va_E} {a m : Nat} {r1 r2 : Value} {lt : Int32} {pl : Nat → Int32} (hw : w[a]? = some (.inr (2, [r1, r2, .ref (a + 2), .int lt]))) : AM G fX2_letterSet [.ref a] w (qx (.inl (some (.int lt))) w) := by
  refine AM_of (by decide) rfl rfl (Nat.le_of_ble_eq_true rfl) ?_
  show AW G fX2_letterSet 0 0 w 0 [some (.ref a)] [] _
  refine r_aload_n (pc := 0) dX2_letterSet_0 rfl rfl ?_
  refine g_X2_21 (pc := 1) rfl hw rfl dX2_letterSet_1 ?_
  refine r_iret (pc := 4) rfl rfl dX2_letterSet_4 ?_
  exact ⟨rfl, rfl⟩

set_option maxRecDepth 100000 in
set_option maxHeartbeats 4000000 in
theorem ac_plainSign {G : aw_G} {w : List va_E} {a m : Nat} {r1 r2 : Value} {lt : Int32} {pl : Nat → Int32} (hw : w[a]? = some (.inr (2, [r1, r2, .ref (a + 2), .int lt]))) (hp : w[a + 2]? = some (.inl (0, m, .inl pl))) (hm : m ≤ 80) (x : Int32) (hx : 0 ≤ x) : AM G fX2_plainSign [.ref a, .int x] w (qx (.inl (some (.int (if x.toNatClampNeg < m then pl x.toNatClampNeg else -1)))) w) := by
  refine AM_of (by decide) rfl rfl (Nat.le_of_ble_eq_true rfl) ?_
  show AW G fX2_plainSign 0 0 w 0 [some (.ref a), some (.int x)] [] _
  refine r_iload_n (pc := 0) dX2_plainSign_0 rfl rfl ?_
  refine r_if_lt (pc := 1) (tgt := 22) dX2_plainSign_1 (by decide) (fun h => absurd h (Int32.not_lt.mpr hx)) (fun h1 => ?_)
  obtain ⟨j, hj, rfl⟩ := nI_of (Int32.not_lt.mpr hx)
  rw [nI_clamp hj]
  refine r_iload_n (pc := 4) dX2_plainSign_4 rfl rfl ?_
  refine r_aload_n (pc := 5) dX2_plainSign_5 rfl rfl ?_
  refine g_X2_18 (pc := 6) rfl hw rfl dX2_plainSign_6 ?_
  refine r_alen (pc := 9) (t := 0) (v := nI m) (fun _ => rfl) hp rfl dX2_plainSign_9 ?_
  refine r_icmp_ge (pc := 10) (tgt := 22) dX2_plainSign_10 (by decide) (fun h10 => ?_) (fun h10 => ?_)
  · refine r_iconst (pc := 22) (v := -1) dX2_plainSign_22 (by decide) ?_
    refine r_iret (pc := 23) rfl rfl dX2_plainSign_23 ?_
    exact ⟨by rw [if_neg (fun z => absurd ((nI_leI (by omega) hj).mp h10) (by omega))], rfl⟩
  · have hjm : j < m := Nat.lt_of_not_le (fun z => h10 (nI_le z hj))
    refine r_aload_n (pc := 13) dX2_plainSign_13 rfl rfl ?_
    refine g_X2_18 (pc := 14) rfl hw rfl dX2_plainSign_14 ?_
    refine r_iload_n (pc := 17) dX2_plainSign_17 rfl rfl ?_
    refine r_iaload (pc := 18) hp (vp_in_nI hjm (by omega)) dX2_plainSign_18 ?_
    rw [nI_clamp (by omega)]
    refine r_goto (pc := 19) (tgt := 23) dX2_plainSign_19 (by decide) ?_
    refine r_iret (pc := 23) rfl rfl dX2_plainSign_23 ?_
    exact ⟨by rw [if_pos hjm], rfl⟩

set_option maxRecDepth 100000 in
set_option maxHeartbeats 4000000 in
theorem ll_loop {G : aw_G} {w : List va_E} {a b : Nat} {s1 s2 : Value} {lt2 : Int32} {pl2 : Nat → Int32} {X X2 : List Int32} {r1 r2 : Value} {lt : Int32} {pl : Nat → Int32} (hw : w[a]? = some (.inr (2, [r1, r2, .ref (a + 2), .int lt]))) (hw2 : w[b]? = some (.inr (2, [s1, s2, .ref (b + 2), .int lt2]))) (hp : w[a + 2]? = some (.inl (0, X.length, .inl pl))) (hp2 : w[b + 2]? = some (.inl (0, X2.length, .inl pl2))) (hm : X.length ≤ 80) (hX : arow pl X) (hX2 : arow pl2 X2) (hll : X2.length = X.length) : ∀ (m i : Nat), i + m = X.length → (∀ j, j < i → X[j]? = X2[j]?) → AW G fX2_looksLike 0 0 w 17 [some (.ref a), some (.ref b), some (.int (nI i))] [] (qx (.inl (some (.int (bi (decide (X = X2)))))) w) := by
  intro m
  induction m with
  | zero =>
    intro i hi hall
    have heq : X = X2 := by
      refine List.ext_getElem? (fun j => ?_)
      by_cases hj : j < i
      · exact hall j hj
      · rw [List.getElem?_eq_none (by omega), List.getElem?_eq_none (by omega)]
    refine r_iload_n (pc := 17) dX2_looksLike_17 rfl rfl ?_
    refine r_aload_n (pc := 18) dX2_looksLike_18 rfl rfl ?_
    refine g_X2_18 (pc := 19) rfl hw rfl dX2_looksLike_19 ?_
    refine r_alen (pc := 22) (t := 0) (v := nI X.length) (fun _ => rfl) hp rfl dX2_looksLike_22 ?_
    refine r_icmp_ge (pc := 23) (tgt := 48) dX2_looksLike_23 (by decide) (fun h23 => ?_) (fun h => absurd (by rw [show i = X.length by omega]; exact Int32.le_refl _) h)
    refine r_iconst (pc := 48) (v := 1) dX2_looksLike_48 (by decide) ?_
    refine r_iret (pc := 49) rfl rfl dX2_looksLike_49 ?_
    exact ⟨by rw [decide_eq_true heq]; rfl, rfl⟩
  | succ m ih =>
    intro i hi hall
    have hil : i < X.length := by omega
    have hxi : X[i]? = some X[i] := List.getElem?_eq_getElem hil
    have hx2i : X2[i]? = some (X2[i]'(by omega)) := List.getElem?_eq_getElem (by omega)
    refine r_iload_n (pc := 17) dX2_looksLike_17 rfl rfl ?_
    refine r_aload_n (pc := 18) dX2_looksLike_18 rfl rfl ?_
    refine g_X2_18 (pc := 19) rfl hw rfl dX2_looksLike_19 ?_
    refine r_alen (pc := 22) (t := 0) (v := nI X.length) (fun _ => rfl) hp rfl dX2_looksLike_22 ?_
    refine r_icmp_ge (pc := 23) (tgt := 48) dX2_looksLike_23 (by decide) (fun h => absurd h (nI_ge9 hil (by omega))) (fun h23 => ?_)
    refine r_aload_n (pc := 26) dX2_looksLike_26 rfl rfl ?_
    refine r_iload_n (pc := 27) dX2_looksLike_27 rfl rfl ?_
    refine s_X2_25 (pc := 28) (kc' := 0) (ks' := 0) rfl rfl (ac_plainSign hw2 hp2 (by omega) _ (nI_pos' (by omega))) hw2 (Nat.le_of_ble_eq_true rfl) (Nat.le_of_ble_eq_true rfl) (Nat.le_of_ble_eq_true rfl) (Nat.le_of_ble_eq_true rfl) (by exact (Nat.le_of_ble_eq_true rfl)) rfl (List.forall_mem_cons.mpr ⟨rfl, (List.forall_mem_cons.mpr ⟨rfl, fun _ h => nomatch h⟩)⟩) rfl dX2_looksLike_28 aw_kt (aw_kq ?_)
    rw [nI_clamp (by omega), if_pos (by omega)]
    refine r_aload_n (pc := 31) dX2_looksLike_31 rfl rfl ?_
    refine g_X2_18 (pc := 32) rfl hw rfl dX2_looksLike_32 ?_
    refine r_iload_n (pc := 35) dX2_looksLike_35 rfl rfl ?_
    refine r_iaload (pc := 36) hp (vp_in_nI hil (by omega)) dX2_looksLike_36 ?_
    rw [nI_clamp (by omega)]
    refine r_icmp_eq (pc := 37) (tgt := 42) dX2_looksLike_37 (by decide) (fun h37 => ?_) (fun h37 => ?_)
    · refine r_iincK (pc := 42) (k9 := 1) dX2_looksLike_42 (by decide) rfl (Nat.le_of_ble_eq_true rfl) rfl ?_
      refine r_goto (pc := 45) (tgt := 17) dX2_looksLike_45 (by decide) ?_
      rw [nI_1]
      refine ih (i + 1) (by omega) (fun j hj => ?_)
      by_cases hji : j = i
      · rw [hji, hxi, hx2i]
        exact congrArg some (by rw [← hX i _ hxi, ← hX2 i _ hx2i]; exact h37.symm)
      · exact hall j (by omega)
    · refine r_iconst (pc := 40) (v := 0) dX2_looksLike_40 (by decide) ?_
      refine r_iret (pc := 41) rfl rfl dX2_looksLike_41 ?_
      have hne : X ≠ X2 := fun z => h37 (by rw [hX2 i _ hx2i, hX i _ hxi]; subst z; rfl)
      exact ⟨by rw [decide_eq_false hne]; rfl, rfl⟩
set_option maxRecDepth 100000 in
set_option maxHeartbeats 4000000 in
theorem ac_looksLike {G : aw_G} {w : List va_E} {a b : Nat} {s1 s2 : Value} {lt2 : Int32} {pl2 : Nat → Int32} {X X2 : List Int32} {r1 r2 : Value} {lt : Int32} {pl : Nat → Int32} (hw : w[a]? = some (.inr (2, [r1, r2, .ref (a + 2), .int lt]))) (hw2 : w[b]? = some (.inr (2, [s1, s2, .ref (b + 2), .int lt2]))) (hp : w[a + 2]? = some (.inl (0, X.length, .inl pl))) (hp2 : w[b + 2]? = some (.inl (0, X2.length, .inl pl2))) (hm : X.length ≤ 80) (hX : arow pl X) (hX2 : arow pl2 X2) (hm2 : X2.length ≤ 80) : AM G fX2_looksLike [.ref a, .ref b] w (qx (.inl (some (.int (bi (decide (X = X2)))))) w) := by
  refine AM_of (by decide) rfl rfl (Nat.le_of_ble_eq_true rfl) ?_
  show AW G fX2_looksLike 0 0 w 0 [some (.ref a), some (.ref b), none] [] _
  refine r_aload_n (pc := 0) dX2_looksLike_0 rfl rfl ?_
  refine g_X2_18 (pc := 1) rfl hw2 rfl dX2_looksLike_1 ?_
  refine r_alen (pc := 4) (t := 0) (v := nI X2.length) (fun _ => rfl) hp2 rfl dX2_looksLike_4 ?_
  refine r_aload_n (pc := 5) dX2_looksLike_5 rfl rfl ?_
  refine g_X2_18 (pc := 6) rfl hw rfl dX2_looksLike_6 ?_
  refine r_alen (pc := 9) (t := 0) (v := nI X.length) (fun _ => rfl) hp rfl dX2_looksLike_9 ?_
  refine r_icmp_eq (pc := 10) (tgt := 15) dX2_looksLike_10 (by decide) (fun h10 => ?_) (fun h10 => ?_)
  · refine r_iconst (pc := 15) (v := 0) dX2_looksLike_15 (by decide) ?_
    refine r_istore_n (pc := 16) dX2_looksLike_16 rfl (Nat.le_of_ble_eq_true rfl) rfl ?_
    exact ll_loop hw hw2 hp hp2 hm hX hX2 ((nI_eq (by omega) (by omega)).mp h10) X.length 0 (Nat.zero_add _) (fun j hj => absurd hj (Nat.not_lt_zero _))
  · refine r_iconst (pc := 13) (v := 0) dX2_looksLike_13 (by decide) ?_
    refine r_iret (pc := 14) rfl rfl dX2_looksLike_14 ?_
    have hne : X ≠ X2 := fun z => h10 (by rw [z])
    exact ⟨by rw [decide_eq_false hne]; rfl, rfl⟩

end S12
