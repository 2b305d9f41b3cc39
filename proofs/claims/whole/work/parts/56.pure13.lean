/-! ===== plain words: the plain text tells the row ===== -/
def ndg (r : List Int32) : Prop := ∀ (c : Int32) (t : List Int32), r = c :: t → isDig c = false
theorem dig_split : ∀ (d1 d2 r1 r2 : List Int32), (∀ c ∈ d1, isDig c = true) → (∀ c ∈ d2, isDig c = true) → ndg r1 → ndg r2 → d1 ++ r1 = d2 ++ r2 → d1 = d2 ∧ r1 = r2
  | [], [], r1, r2, _, _, _, _, h => ⟨rfl, h⟩
  | [], c :: d2, r1, r2, _, h2, h3, _, h => by
    have := h3 c (d2 ++ r2) h
    rw [h2 c (List.mem_cons_self ..)] at this
    cases this
  | c :: d1, [], r1, r2, h1, _, _, h4, h => by
    have := h4 c (d1 ++ r1) h.symm
    rw [h1 c (List.mem_cons_self ..)] at this
    cases this
  | c :: d1, c2 :: d2, r1, r2, h1, h2, h3, h4, h => by
    injection h with e1 e2
    subst e1
    obtain ⟨g1, g2⟩ := dig_split d1 d2 r1 r2 (fun x hx => h1 x (List.mem_cons_of_mem _ hx)) (fun x hx => h2 x (List.mem_cons_of_mem _ hx)) h3 h4 e2
    exact ⟨by rw [g1], g2⟩
theorem isDig_nI {d : Nat} (h : d ≤ 9) : isDig (nI (48 + d)) = true := decide_eq_true ⟨(nI_leI (a := 48) (by decide) (by omega)).mpr (by omega), (nI_leI (b := 57) (by omega) (by decide)).mpr (by omega)⟩
theorem dgs_dig {Q : Nat} (h : Q ≤ 999) : ∀ c ∈ dgs (nI Q), isDig c = true := by
  intro c hc
  rw [dgs_nI h] at hc
  rcases List.mem_append.mp hc with hc | hc
  · rcases List.mem_append.mp hc with hc | hc
    · split at hc
      · cases hc
      · rw [List.mem_singleton.mp hc]; exact isDig_nI (by omega)
    · split at hc
      · cases hc
      · rw [List.mem_singleton.mp hc]; exact isDig_nI (by omega)
  · rw [List.mem_singleton.mp hc]; exact isDig_nI (by omega)
theorem dgs_inj {Q R : Nat} (hQ : Q ≤ 999) (hR : R ≤ 999) (h : dgs (nI Q) = dgs (nI R)) : Q = R := by
  rw [dgs_nI hQ, dgs_nI hR] at h
  have e : ∀ {a b : Nat}, a ≤ 99 → b ≤ 99 → nI (48 + a) = nI (48 + b) → a = b := fun ha hb z => by
    have := (nI_eq (by omega) (by omega)).mp z
    omega
  by_cases q1 : Q ≤ 9
  · by_cases r1 : R ≤ 9
    · rw [if_pos (by omega), if_pos q1, if_pos (by omega), if_pos r1] at h
      injection h with h1 h2
      have := e (by omega) (by omega) h1
      omega
    · by_cases r2 : R ≤ 99
      · rw [if_pos (by omega), if_pos q1, if_pos r2, if_neg r1] at h
        injection h with h1 h2; cases h2
      · rw [if_pos (by omega), if_pos q1, if_neg r2, if_neg r1] at h
        injection h with h1 h2; cases h2
  · by_cases q2 : Q ≤ 99
    · by_cases r1 : R ≤ 9
      · rw [if_pos q2, if_neg q1, if_pos (by omega), if_pos r1] at h
        injection h with h1 h2; cases h2
      · by_cases r2 : R ≤ 99
        · rw [if_pos q2, if_neg q1, if_pos r2, if_neg r1] at h
          injection h with h1 h2
          injection h2 with h2 h3
          have a1 := e (by omega) (by omega) h1
          have a2 := e (by omega) (by omega) h2
          omega
        · rw [if_pos q2, if_neg q1, if_neg r2, if_neg r1] at h
          injection h with h1 h2
          injection h2 with h2 h3; cases h3
    · by_cases r1 : R ≤ 9
      · rw [if_neg q2, if_neg q1, if_pos (by omega), if_pos r1] at h
        injection h with h1 h2; cases h2
      · by_cases r2 : R ≤ 99
        · rw [if_neg q2, if_neg q1, if_pos r2, if_neg r1] at h
          injection h with h1 h2
          injection h2 with h2 h3; cases h3
        · rw [if_neg q2, if_neg q1, if_neg r2, if_neg r1] at h
          injection h with h1 h2
          injection h2 with h2 h3
          injection h3 with h3 h4
          have a1 := e (by omega) (by omega) h1
          have a2 := e (by omega) (by omega) h2
          have a3 := e (by omega) (by omega) h3
          omega
theorem okL_l {a b : List Int32} (h : okL (a ++ b)) : okL a := fun c hc => h c (List.mem_append_left _ hc)
theorem okL_r {a b : List Int32} (h : okL (a ++ b)) : okL b := fun c hc => h c (List.mem_append_right _ hc)
theorem sgL_l {a b : List Int32} (h : sgL (a ++ b)) : sgL a := fun c hc => h c (List.mem_append_left _ hc)
theorem sgL_r {a b : List Int32} (h : sgL (a ++ b)) : sgL b := fun c hc => h c (List.mem_append_right _ hc)
/-- the first sign of a block's plain text: what kind of block it is -/
theorem one_cases {c : Int32} (h : okL [c]) (h2 : c < 2000) : (∃ Q : Nat, Q ≤ 999 ∧ c = nI Q ∧ plS [c] = dgs (nI Q)) ∨ ∃ d : Nat, d < 6 ∧ c = nI (1000 + d) ∧ plS [c] = [nI (97 + d)] := by
  have hc := h c (List.mem_singleton.mpr rfl)
  rw [plS_one h2]
  by_cases h1 : c < 1000
  · left
    obtain ⟨k, hk, rfl⟩ := nI_of2 (n := 2200) (M := 2200) rfl (Int32.not_lt.mpr hc.1.1) hc.1.2
    have := (nI_ltI (b := 1000) (by omega) (by decide)).mp h1
    exact ⟨k, by omega, rfl, by unfold atm; rw [if_pos h1]⟩
  · right
    obtain ⟨d, hd, rfl⟩ := hc.2 (Int32.not_lt.mp h1) h2
    refine ⟨d, hd, rfl, ?_⟩
    unfold atm
    rw [if_neg h1]
    congr 1
    rw [show (97 : Int32) + nI (1000 + d) = nI (97 + (1000 + d)) from nI_add 97 _]
    exact (pk_sub (b := 1000) (by omega)).trans (congrArg nI (by omega))
theorem dgs_cons {Q : Nat} (h : Q ≤ 999) : ∃ c t, dgs (nI Q) = c :: t ∧ isDig c = true := by
  cases hz : dgs (nI Q) with
  | nil => rw [dgs_nI h] at hz; simp at hz
  | cons c t => exact ⟨c, t, rfl, dgs_dig h c (by rw [hz]; exact List.mem_cons_self ..)⟩
