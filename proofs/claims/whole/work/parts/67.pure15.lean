/-! ===== sets of letters, by their bits; the order's choice ===== -/
theorem k1000 (j : Nat) : (1000 : Int32) + nI j = nI (1000 + j) := nI_add 1000 j
theorem b_zero {x : Int32} : x = 0 ↔ ∀ i, i < 32 → bt x i = false := ⟨fun h i _ => by rw [h, b_0], fun h => b_ext (fun i hi => by rw [h i hi, b_0])⟩
theorem anyE_cons (x c : Int32) (cs : List Int32) : anyE x (c :: cs) = (decide (c = x) || anyE x cs) := rfl
theorem msk_one {c : Int32} {row : List Int32} (hok : okL row) (hm : c ∈ row) {i : Nat} (hi : i < 32) : bt (if 1000 ≤ c ∧ c ≤ 1005 then 1 <<< ((c - 1000) &&& 31) else 0) i = (decide (i < 6) && decide (c = 1000 + nI i)) := by
  rw [k1000]
  by_cases h : 1000 ≤ c ∧ c ≤ 1005
  · rw [if_pos h]
    obtain ⟨j, hj, e⟩ := (hok c hm).2 h.1 (Int32.lt_of_le_of_lt h.2 (by decide))
    subst e
    rw [show nI (1000 + j) - 1000 = nI (1000 + j - 1000) from pk_sub (b := 1000) (by omega), show 1000 + j - 1000 = j by omega]
    show bt (b1 j) i = _
    rw [bt_b1 (by omega) hi]
    by_cases h2 : i = j
    · subst h2
      rw [decide_eq_true rfl, decide_eq_true hj, decide_eq_true rfl]; rfl
    · rw [decide_eq_false h2, decide_eq_false (show ¬ nI (1000 + j) = nI (1000 + i) from fun z => h2 (by have := (nI_eq (a := 1000 + j) (b := 1000 + i) (by omega) (by omega)).mp z; omega)), Bool.and_false]
  · rw [if_neg h, b_0]
    by_cases h6 : i < 6
    · rw [decide_eq_false (show ¬ c = nI (1000 + i) from fun z => h (by
        rw [z]
        exact ⟨(nI_leI (a := 1000) (by decide) (by omega)).mpr (by omega), (nI_leI (b := 1005) (by omega) (by decide)).mpr (by omega)⟩)), Bool.and_false]
    · rw [decide_eq_false h6, Bool.false_and]
theorem msk_bt : ∀ (row : List Int32) (s : Int32) (i : Nat), i < 32 → okL row → bt (msk s row) i = (bt s i || (decide (i < 6) && anyE (1000 + nI i) row))
  | [], s, i, _, _ => by
    show bt s i = (bt s i || (decide (i < 6) && false))
    rw [Bool.and_false, Bool.or_false]
  | c :: cs, s, i, hi, hok => by
    rw [msk, msk_bt cs _ i hi (fun x hx => hok x (List.mem_cons_of_mem _ hx)), b_or, msk_one hok (List.mem_cons_self ..) hi, anyE_cons]
    cases bt s i <;> cases decide (i < 6) <;> simp
theorem lmU_bt (row : List Int32) {i : Nat} (hi : i < 32) : ∀ (m k : Nat) (s : Int32), k + m ≤ 32 → bt (lmU row k m s) i = (bt s i || (decide (k ≤ i ∧ i < k + m) && anyE (1000 + nI i) row))
  | 0, k, s, _ => by
    rw [lmU, decide_eq_false (by omega), Bool.false_and, Bool.or_false]
  | m + 1, k, s, h => by
    rw [lmU, lmU_bt row hi m (k + 1) _ (by omega), b_or]
    by_cases e : i = k
    · subst e
      rw [decide_eq_false (by omega), decide_eq_true (by omega)]
      split
      · rename_i h1
        rw [bt_b1 hi hi, decide_eq_true rfl, h1]; simp
      · rename_i h1
        rw [b_0, Bool.eq_false_iff.mpr h1]; simp
    · have e2 : decide (k + 1 ≤ i ∧ i < k + 1 + m) = decide (k ≤ i ∧ i < k + (m + 1)) := by
        by_cases h3 : k ≤ i ∧ i < k + (m + 1)
        · rw [decide_eq_true h3, decide_eq_true (by omega)]
        · rw [decide_eq_false h3, decide_eq_false (by omega)]
      rw [e2]
      split
      · rw [bt_b1 (by omega) hi, decide_eq_false e, Bool.or_false]
      · rw [b_0, Bool.or_false]
theorem msk_lmU {row : List Int32} (hok : okL row) (s : Int32) : s ||| msk 0 row = lmU row 0 6 s := by
  refine b_ext (fun i hi => ?_)
  rw [b_or, msk_bt row 0 i hi hok, lmU_bt row hi 6 0 s (by decide), b_0, Bool.false_or]
  congr 2
  by_cases h : i < 6
  · rw [decide_eq_true h, decide_eq_true (by omega)]
  · rw [decide_eq_false h, decide_eq_false (by omega)]
theorem canO_iff {R6 : Nat → List Int32} {dn : Int32} {k : Nat} : ∀ (m o : Nat) (c : Bool), canO R6 dn k o m c = true ↔ c = true ∧ ∀ j, o ≤ j → j < o + m → ¬ (wtO R6 dn j = true ∧ anyE (1000 + nI j) (R6 k) = true)
  | 0, o, c => ⟨fun h => ⟨h, fun j h1 h2 => by omega⟩, fun h => h.1⟩
  | m + 1, o, c => by
    rw [canO, canO_iff m (o + 1)]
    constructor
    · rintro ⟨h1, h2⟩
      rw [Bool.and_eq_true, Bool.not_eq_true', Bool.and_eq_false_iff] at h1
      refine ⟨h1.1, fun j h3 h4 h5 => ?_⟩
      by_cases e : j = o
      · subst e
        rcases h1.2 with z | z
        · rw [z] at h5; exact absurd h5.1 (by decide)
        · rw [z] at h5; exact absurd h5.2 (by decide)
      · exact h2 j (by omega) (by omega) h5
    · rintro ⟨h1, h2⟩
      refine ⟨?_, fun j h3 h4 => h2 j (by omega) (by omega)⟩
      rw [h1, Bool.true_and, Bool.not_eq_true', Bool.and_eq_false_iff]
      have h3 := h2 o (Nat.le_refl _) (by omega)
      cases h4 : wtO R6 dn o with
      | false => exact Or.inl rfl
      | true =>
        cases h5 : anyE (1000 + nI o) (R6 k) with
        | false => exact Or.inr rfl
        | true => exact absurd ⟨h4, h5⟩ h3
/-- the waiting fields of the class are those of the reference that are computed and not told yet -/
def wtB (R6 : Nat → List Int32) (dn wt : Int32) : Prop := ∀ j, j < 32 → bitI wt j = (decide (j < 6) && wtO R6 dn j)
theorem free_iff {R6 : Nat → List Int32} {dn wt : Int32} (hw : wtB R6 dn wt) {k : Nat} (hk : k < 6) (hok : okL (R6 k)) : (bitI wt k = true ∧ msk 0 (R6 k) &&& wt = 0) ↔ canO R6 dn k 0 6 (wtO R6 dn k) = true := by
  rw [canO_iff, hw k (by omega), decide_eq_true hk, Bool.true_and, b_zero]
  refine and_congr_right (fun _ => ⟨fun h j _ hj h2 => ?_, fun h i hi => ?_⟩)
  · have h3 := h j (by omega)
    rw [b_and, msk_bt _ _ _ (by omega) hok, b_0, Bool.false_or, decide_eq_true (show j < 6 by omega), h2.2, ← bitI_bt (by omega), hw j (by omega), h2.1, decide_eq_true (show j < 6 by omega)] at h3
    exact absurd h3 (by decide)
  · rw [b_and, msk_bt _ _ _ hi hok, b_0, Bool.false_or, ← bitI_bt hi, hw i hi]
    by_cases h6 : i < 6
    · rw [decide_eq_true h6, Bool.true_and, Bool.true_and]
      have h3 := h i (Nat.zero_le _) (by omega)
      cases h4 : wtO R6 dn i with
      | false => rw [Bool.and_false]
      | true =>
        cases h5 : anyE (1000 + nI i) (R6 k) with
        | false => rfl
        | true => exact absurd ⟨h4, h5⟩ h3
    · rw [decide_eq_false h6, Bool.false_and, Bool.false_and]
theorem wtB_clr {R6 : Nat → List Int32} {dn wt : Int32} (hw : wtB R6 dn wt) {k : Nat} (hk : k < 6) : wtB R6 (dn ||| b1 k) (wt &&& (b1 k ^^^ (-1))) := by
  intro j hj
  rw [bitI_clr (by omega) hj, hw j hj, Bool.and_assoc]
  congr 1
  unfold wtO
  rw [bitI_or hj, bitI_b1 (by omega) hj, Bool.and_assoc]
  congr 1
  cases bitI dn j <;> cases decide (j = k) <;> rfl
theorem fndO_dn {R6 : Nat → List Int32} {dn : Int32} {k j : Nat} (h : fndO R6 dn k j = none) : ∀ n acc, k = 0 → j = 6 → ordO R6 n dn acc = acc := by
  intro n
  induction n with
  | zero => intro acc _ _; rfl
  | succ n ih =>
    intro acc e1 e2
    rw [ordO]
    subst e1; subst e2
    rw [h]
    exact ih acc rfl rfl
