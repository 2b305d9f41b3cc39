/-! ===== plain words: answers ===== -/
def canP (ar : Nat → Nat → Int32) (R : Nat → List Int32) (v f : Nat) : Bool := decide (ar 4 (6 * (v + 1) + f) ≠ 0) && decide (R (10 * (v + 1) + f) = [])
def rightP (t x : Int32) : Bool := if t = 1 then decide (-999 ≤ x ∧ x ≤ 999) else if t = 2 then decide (0 ≤ x ∧ x ≤ 1) else decide (0 ≤ x ∧ x ≤ 9)
def lackF (ar : Nat → Nat → Int32) (R : Nat → List Int32) (v a : Nat) (f : Nat) : Bool := canP ar R v f && decide (ar 10 (6 * a + f) = 0)
def cmpL (R6 : Nat → List Int32) (a : Nat) : List Nat → (Nat → Int32) → Nat → Int32
  | [], f => f
  | k :: l, f => cmpL R6 a l (upd f (6 * a + k) (vaV (fun j => f (6 * a + j)) (R6 k)))
def hasL (a : Nat) : List Nat → (Nat → Int32) → Nat → Int32
  | [], f => f
  | k :: l, f => hasL a l (upd f (6 * a + k) 1)
def refU (vs : Nat → Int32) (R6 : Nat → List Int32) : Nat → Nat → Int32
  | _, 0 => -1
  | k, m + 1 => if R6 k ≠ [] ∧ vaV vs (R6 k) = 0 then nI k else refU vs R6 (k + 1) m
def stJ (rf db : Int32) : Int32 := if rf ≠ -1 then 2 else if 0 < db then 3 else 1
theorem canO_c {R6 : Nat → List Int32} {dn : Int32} {k : Nat} : ∀ (m o : Nat) (c : Bool), canO R6 dn k o m c = true → c = true
  | 0, o, c, h => h
  | m + 1, o, c, h => by
    have := canO_c m (o + 1) _ h
    cases c with
    | true => rfl
    | false => simp at this
theorem fndO_ne {R6 : Nat → List Int32} {dn : Int32} : ∀ (m k j : Nat), fndO R6 dn k m = some j → R6 j ≠ []
  | 0, k, j, h => by cases h
  | m + 1, k, j, h => by
    unfold fndO at h
    split at h
    · rename_i hc
      cases h
      have h9 := canO_c 6 0 _ hc
      unfold wtO at h9
      intro z
      rw [z] at h9
      simp at h9
    · exact fndO_ne m (k + 1) j h
theorem ordO_ne {R6 : Nat → List Int32} : ∀ (n : Nat) (dn : Int32) (acc : List Nat), (∀ k ∈ acc, R6 k ≠ []) → ∀ k ∈ ordO R6 n dn acc, R6 k ≠ []
  | 0, dn, acc, h => h
  | n + 1, dn, acc, h => by
    unfold ordO
    split
    · exact ordO_ne n dn acc h
    · rename_i k hk
      refine ordO_ne n _ _ (fun j hj => ?_)
      rcases List.mem_append.mp hj with z | z
      · exact h j z
      · cases List.mem_singleton.mp z
        exact fndO_ne 6 0 k hk
theorem inV_nat {vn : Nat} (hvn : vn ≤ 20) {x : Int32} (h : 0 ≤ x ∧ x ≤ nI vn - 1) : ∃ v, v < vn ∧ x = nI v := by
  cases vn with
  | zero => exact absurd (Int32.le_trans h.1 h.2) (by decide)
  | succ n =>
    rw [show nI (n + 1) - 1 = nI n from pk_sub (b := 1) (by omega)] at h
    obtain ⟨j, hj, hx⟩ := nI_of (Int32.not_lt.mpr h.1)
    refine ⟨j, ?_, hx⟩
    rw [hx] at h
    have := (nI_leI hj (by omega)).mp h.2
    omega
theorem inV_of {vn v : Nat} (h : v < vn) (hvn : vn ≤ 20) : 0 ≤ nI v ∧ nI v ≤ nI vn - 1 := by
  refine ⟨nI_pos' (by omega), ?_⟩
  rw [show nI vn - 1 = nI (vn - 1) from pk_sub (b := 1) (by omega)]
  exact nI_le (by omega) (by omega)
theorem inF_nat {x : Int32} (h : 0 ≤ x ∧ x ≤ 5) : ∃ v, v < 6 ∧ x = nI v := by
  obtain ⟨j, hj, hx⟩ := nI_of2 (x := x) (M := 5) (n := 5) (by decide) (Int32.not_lt.mpr h.1) h.2
  exact ⟨j, by omega, hx⟩
theorem inF_of {v : Nat} (h : v < 6) : 0 ≤ nI v ∧ nI v ≤ 5 := ⟨nI_pos' (by omega), nI_le (b := 5) (by omega) (by decide)⟩
theorem inG_nat {x : Int32} (h : 0 ≤ x ∧ x ≤ 9) : ∃ v, v < 10 ∧ x = nI v := by
  obtain ⟨j, hj, hx⟩ := nI_of2 (x := x) (M := 9) (n := 9) (by decide) (Int32.not_lt.mpr h.1) h.2
  exact ⟨j, by omega, hx⟩
theorem inG_of {v : Nat} (h : v < 10) : 0 ≤ nI v ∧ nI v ≤ 9 := ⟨nI_pos' (by omega), nI_le (b := 9) (by omega) (by decide)⟩
