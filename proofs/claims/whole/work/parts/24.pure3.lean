/-! ===== plain words: rows of codes, and what is made of them ===== -/
def rp (N : Int32 → Int32) (L : Nat → Int32) (Bn : Int32 → Int32) (S : Int32 → Int32 → Int32 → Int32) : List Int32 → List Int32 → Option (List Int32)
  | [], st => some st
  | c :: cs, st =>
    if c < 1000 then rp N L Bn S cs (N c :: st)
    else if c < 2000 then rp N L Bn S cs (L (c - 1000).toNatClampNeg :: st)
    else if c = 2033 then st.head?.bind (fun a => rp N L Bn S cs (Bn a :: st.tail))
    else st.head?.bind (fun b => st.tail.head?.bind (fun a => rp N L Bn S cs (S (c - 2000) a b :: st.tail.tail)))
def okL (row : List Int32) : Prop := ∀ c ∈ row, (0 ≤ c ∧ c ≤ 2200) ∧ (1000 ≤ c → c < 2000 → ∃ j : Nat, j < 6 ∧ c = nI (1000 + j))
def tyF (s a b : Int32) : Int32 :=
  if s = 61 then (if (a = b ∨ (a = 1 ∧ b = 3) ∨ (a = 3 ∧ b = 1)) ∧ a ≠ -1 then 2 else -1)
  else if s = 38 ∨ s = 124 then (if a = 2 ∧ b = 2 then 2 else -1)
  else if s = 43 ∨ s = 45 ∨ s = 42 then (if a = 1 ∧ b = 1 then 1 else -1)
  else (if a = 1 ∧ b = 1 then 2 else -1)
def tyL (ty : Nat → Int32) (j : Nat) : Int32 := if ty j = 0 then -1 else ty j
def tyB (a : Int32) : Int32 := if a = 2 then 2 else -1
def tyR (ty : Nat → Int32) : List Int32 → List Int32 → Option (List Int32) := rp (fun _ => 1) (tyL ty) tyB tyF
def rm4 (x : Int32) : Int32 := x - x / 10000 * 10000
def vaF (s a b : Int32) : Int32 :=
  if s = 43 then rm4 (a + b) else if s = 45 then rm4 (a - b) else if s = 42 then rm4 (a * b)
  else if s = 60 then bi (decide (a < b)) else if s = 62 then bi (decide (a > b)) else if s = 61 then bi (decide (a = b))
  else if s = 38 then bi (decide (a = 1 ∧ b = 1)) else bi (decide (a = 1 ∨ b = 1))
def vaR (vs : Nat → Int32) : List Int32 → List Int32 → Option (List Int32) := rp (fun c => c) vs (fun a => 1 - a) vaF
theorem tyR_num {ty : Nat → Int32} {c : Int32} {cs st : List Int32} (h : c < 1000) : tyR ty (c :: cs) st = tyR ty cs (1 :: st) := by unfold tyR; rw [rp, if_pos h]
theorem tyR_let {ty : Nat → Int32} {c : Int32} {cs st : List Int32} (h : ¬ c < 1000) (h2 : c < 2000) : tyR ty (c :: cs) st = tyR ty cs (tyL ty (c - 1000).toNatClampNeg :: st) := by unfold tyR; rw [rp, if_neg h, if_pos h2]
theorem tyR_bng {ty : Nat → Int32} {cs st : List Int32} {a : Int32} : tyR ty (2033 :: cs) (a :: st) = tyR ty cs (tyB a :: st) := by unfold tyR; rw [rp, if_neg (by decide), if_neg (by decide), if_pos rfl]; rfl
theorem tyR_bin {ty : Nat → Int32} {c a b : Int32} {cs st : List Int32} (h : ¬ c < 1000) (h2 : ¬ c < 2000) (h3 : ¬ c = 2033) : tyR ty (c :: cs) (b :: a :: st) = tyR ty cs (tyF (c - 2000) a b :: st) := by unfold tyR; rw [rp, if_neg h, if_neg h2, if_neg h3]; rfl
theorem vaR_num {vs : Nat → Int32} {c : Int32} {cs st : List Int32} (h : c < 1000) : vaR vs (c :: cs) st = vaR vs cs (c :: st) := by unfold vaR; rw [rp, if_pos h]
theorem vaR_let {vs : Nat → Int32} {c : Int32} {cs st : List Int32} (h : ¬ c < 1000) (h2 : c < 2000) : vaR vs (c :: cs) st = vaR vs cs (vs (c - 1000).toNatClampNeg :: st) := by unfold vaR; rw [rp, if_neg h, if_pos h2]
theorem vaR_bng {vs : Nat → Int32} {cs st : List Int32} {a : Int32} : vaR vs (2033 :: cs) (a :: st) = vaR vs cs ((1 - a) :: st) := by unfold vaR; rw [rp, if_neg (by decide), if_neg (by decide), if_pos rfl]; rfl
theorem vaR_bin {vs : Nat → Int32} {c a b : Int32} {cs st : List Int32} (h : ¬ c < 1000) (h2 : ¬ c < 2000) (h3 : ¬ c = 2033) : vaR vs (c :: cs) (b :: a :: st) = vaR vs cs (vaF (c - 2000) a b :: st) := by unfold vaR; rw [rp, if_neg h, if_neg h2, if_neg h3]; rfl
/-- of a step that takes two: there are two -/
theorem rp_bin {N : Int32 → Int32} {L : Nat → Int32} {Bn : Int32 → Int32} {S : Int32 → Int32 → Int32 → Int32} {c : Int32} {cs st q : List Int32} (h : ¬ c < 1000) (h2 : ¬ c < 2000) (h3 : ¬ c = 2033) (hr : rp N L Bn S (c :: cs) st = some q) : ∃ b a s, st = b :: a :: s := by
  rw [rp, if_neg h, if_neg h2, if_neg h3] at hr
  cases st with
  | nil => cases hr
  | cons b s =>
    cases s with
    | nil => cases hr
    | cons a s => exact ⟨b, a, s, rfl⟩
theorem rp_bng {N : Int32 → Int32} {L : Nat → Int32} {Bn : Int32 → Int32} {S : Int32 → Int32 → Int32 → Int32} {cs st q : List Int32} (hr : rp N L Bn S (2033 :: cs) st = some q) : ∃ a s, st = a :: s := by
  rw [rp, if_neg (by decide), if_neg (by decide), if_pos rfl] at hr
  cases st with
  | nil => cases hr
  | cons a s => exact ⟨a, s, rfl⟩
/-- a row lies in the reference's codes -/
def crow (ar : Nat → Nat → Int32) (its : Nat) (row : List Int32) : Prop := its < 110 ∧ row.length ≤ 40 ∧ ar 3 its = nI row.length ∧ ∀ (i : Nat) (x : Int32), row[i]? = some x → ar 2 (40 * its + i) = x
theorem n40 (x : Nat) : (40 : Int32) * nI x = nI (40 * x) := pk_mul 40 x
theorem n10 (x : Nat) : (10 : Int32) * nI x = nI (10 * x) := pk_mul 10 x
theorem n6 (x : Nat) : (6 : Int32) * nI x = nI (6 * x) := pk_mul 6 x
def anyE (x : Int32) (l : List Int32) : Bool := l.any (fun y => decide (y = x))
