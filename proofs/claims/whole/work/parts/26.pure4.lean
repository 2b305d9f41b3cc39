/-! ===== plain words: the reference's state ===== -/
/-- how deep a row's stack is behind it -/
def dp : List Int32 → Nat → Option Nat
  | [], d => some d
  | c :: cs, d => if c < 2000 then dp cs (d + 1) else if c = 2033 then (if d = 0 then none else dp cs d) else (if d < 2 then none else dp cs (d - 1))
theorem dp_rp {N : Int32 → Int32} {L : Nat → Int32} {Bn : Int32 → Int32} {S : Int32 → Int32 → Int32 → Int32} : ∀ (row : List Int32) (d m : Nat) (st : List Int32), st.length = d → dp row d = some m → ∃ st', rp N L Bn S row st = some st' ∧ st'.length = m
  | [], d, m, st, h, hd => ⟨st, rfl, by cases hd; exact h⟩
  | c :: cs, d, m, st, h, hd => by
    unfold dp at hd
    by_cases h1 : c < 1000
    · rw [if_pos (show c < 2000 from Int32.lt_trans h1 (by decide))] at hd
      rw [rp, if_pos h1]
      exact dp_rp cs (d + 1) m _ (by simp [h]) hd
    · by_cases h2 : c < 2000
      · rw [if_pos h2] at hd
        rw [rp, if_neg h1, if_pos h2]
        exact dp_rp cs (d + 1) m _ (by simp [h]) hd
      · rw [if_neg h2] at hd
        by_cases h3 : c = 2033
        · rw [if_pos h3] at hd
          rw [rp, if_neg h1, if_neg h2, if_pos h3]
          cases st with
          | nil => rw [if_pos (by simpa using h.symm)] at hd; cases hd
          | cons a s =>
            rw [if_neg (by simp at h; omega)] at hd
            exact dp_rp cs d m _ (by simpa using h) hd
        · rw [if_neg h3] at hd
          rw [rp, if_neg h1, if_neg h2, if_neg h3]
          cases st with
          | nil => rw [if_pos (by simp at h; omega)] at hd; cases hd
          | cons b s =>
            cases s with
            | nil => rw [if_pos (by simp at h; omega)] at hd; cases hd
            | cons a s =>
              rw [if_neg (by simp at h; omega)] at hd
              exact dp_rp cs (d - 1) m _ (by simp at h ⊢; omega) hd
/-- a row that a formula has -/
def wfr (row : List Int32) : Prop := dp row 0 = some 1 ∧ okL row ∧ row.length ≤ 40
def tyV (ty : Nat → Int32) (row : List Int32) : Int32 := ((tyR ty row []).getD []).headD 0
def vaV (vs : Nat → Int32) (row : List Int32) : Int32 := ((vaR vs row []).getD []).headD 0
theorem tyV_of {ty : Nat → Int32} {row : List Int32} (h : wfr row) : tyR ty row [] = some [tyV ty row] := by
  obtain ⟨st, h1, h2⟩ := dp_rp (N := fun _ => 1) (L := tyL ty) (Bn := tyB) (S := tyF) row 0 1 [] rfl h.1
  have h3 : tyR ty row [] = some st := h1
  unfold tyV
  rw [h3]
  cases st with
  | nil => cases h2
  | cons a s => cases s with
    | nil => rfl
    | cons b s => cases h2
theorem vaV_of {vs : Nat → Int32} {row : List Int32} (h : wfr row) : vaR vs row [] = some [vaV vs row] := by
  obtain ⟨st, h1, h2⟩ := dp_rp (N := fun c => c) (L := vs) (Bn := fun a => 1 - a) (S := vaF) row 0 1 [] rfl h.1
  have h3 : vaR vs row [] = some st := h1
  unfold vaV
  rw [h3]
  cases st with
  | nil => cases h2
  | cons a s => cases s with
    | nil => rfl
    | cons b s => cases h2
theorem wfr_ne {row : List Int32} (h : wfr row) : row ≠ [] := fun z => by
  have h1 := h.1
  rw [z] at h1
  cases h1
/-- the reference's state: how long the text is; how many versions and answers; the rows of formulas; the versions of answers -/
def MI (tn vn an : Nat) (R : Nat → List Int32) (vv : Nat → Nat) (sc : Nat → Int32) (ar : Nat → Nat → Int32) : Prop :=
  sc 1 = nI tn ∧ tn ≤ 40 ∧ sc 5 = nI vn ∧ vn ≤ 10 ∧ sc 6 = nI an ∧ an ≤ 20 ∧ (∀ its, its < 110 → crow ar its (R its) ∧ (R its = [] ∨ wfr (R its))) ∧ ∀ a, a < an → ar 8 a = nI (vv a) ∧ vv a < vn
theorem MI_ag {tn vn an : Nat} {R : Nat → List Int32} {vv : Nat → Nat} {Ks Ka : List Nat} {sc sc' : Nat → Int32} {ar ar' : Nat → Nat → Int32} (h : MI tn vn an R vv sc ar) (hag : ag Ks Ka sc ar sc' ar') (h1 : 1 ∉ Ks ∧ 5 ∉ Ks ∧ 6 ∉ Ks) (h2 : 2 ∉ Ka ∧ 3 ∉ Ka ∧ 8 ∉ Ka) : MI tn vn an R vv sc' ar' := by
  obtain ⟨a1, a2, a3, a4, a5, a6, a7, a8⟩ := h
  refine ⟨(hag.1 1 h1.1).trans a1, a2, (hag.1 5 h1.2.1).trans a3, a4, (hag.1 6 h1.2.2).trans a5, a6, fun its hi => ⟨?_, (a7 its hi).2⟩, fun a ha => ?_⟩
  · unfold crow
    rw [hag.2 2 h2.1, hag.2 3 h2.2.1]
    exact (a7 its hi).1
  · rw [hag.2 8 h2.2.2]
    exact a8 a ha
def dueF (ty : Nat → Int32) (f : Nat) : Int32 := if f < 6 then ty f else 2
def brkF (ty : Nat → Int32) (row : List Int32) (f : Nat) : Bool := decide (row ≠ [] ∧ tyV ty row ≠ dueF ty f)
/-- how many of the m numbers from k on -/
def cntU (p : Nat → Bool) : Nat → Nat → Nat
  | _, 0 => 0
  | k, m + 1 => (if p k = true then 1 else 0) + cntU p (k + 1) m
theorem cntU_le (p : Nat → Bool) : ∀ m k, cntU p k m ≤ m
  | 0, _ => Nat.le_refl _
  | m + 1, k => by
    have := cntU_le p m (k + 1)
    unfold cntU
    split <;> omega
theorem cntU_cong {p q : Nat → Bool} : ∀ (m k : Nat), (∀ j, k ≤ j → j < k + m → p j = q j) → cntU p k m = cntU q k m
  | 0, _, _ => rfl
  | m + 1, k, h => by
    unfold cntU
    rw [h k (Nat.le_refl _) (by omega), cntU_cong m (k + 1) (fun j h1 h2 => h j (by omega) (by omega))]
def bitI (x : Int32) (k : Nat) : Bool := decide ((x >>> (nI k &&& 31)) &&& 1 = 1)
def b1 (k : Nat) : Int32 := 1 <<< (nI k &&& 31)
/-- the letters of a row, as a set -/
def msk (s : Int32) : List Int32 → Int32
  | [] => s
  | c :: cs => msk (s ||| (if 1000 ≤ c ∧ c ≤ 1005 then 1 <<< ((c - 1000) &&& 31) else 0)) cs
/-- the letters of a row, one after the other -/
def lmU (row : List Int32) : Nat → Nat → Int32 → Int32
  | _, 0, s => s
  | k, m + 1, s => lmU row (k + 1) m (s ||| (if anyE (1000 + nI k) row = true then b1 k else 0))
def rcI (R : Nat → List Int32) (f : Nat) : Nat → Nat → Int32 → Int32
  | _, 0, s => s
  | k, m + 1, s => rcI R f (k + 1) m (if bitI s k = true ∧ k ≠ f then lmU (R k) 0 6 s else s)
def rcR (R : Nat → List Int32) (f : Nat) : Nat → Int32 → Int32
  | 0, s => s
  | m + 1, s => rcR R f m (rcI R f 0 6 s)
