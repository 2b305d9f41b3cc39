/-! ===== plain words: how the reference lays a row ===== -/
def rk (c : Int32) : Int32 := if c = 42 then 5 else if c = 43 ∨ c = 45 then 4 else if c = 60 ∨ c = 61 ∨ c = 62 then 3 else if c = 38 then 2 else if c = 124 then 1 else 0
def lyB (r : List Int32) : List Int32 → List Int32 × List Int32
  | [] => (r, [])
  | x :: l => if x = 33 then lyB (r ++ [2033]) l else (r, x :: l)
def lyS (k : Int32) (r : List Int32) : List Int32 → List Int32 × List Int32
  | [] => (r, [])
  | x :: l => if x = 40 ∨ rk x < k then (r, x :: l) else lyS k (r ++ [2000 + x]) l
def rdN (n : Int32) : List Int32 → Int32 × List Int32
  | [] => (n, [])
  | c :: cs => if isDig c = true then rdN (10 * n + c - 48) cs else (n, c :: cs)
def lr : Nat → List Int32 → List Int32 → List Int32 → Option (List Int32)
  | _, [], r, s => some (lyS 0 r s).1
  | 0, _ :: _, _, _ => none
  | n + 1, c :: cs, r, s =>
    if isDig c = true then
      (match rdN (c - 48) cs with
        | (num, cs') => lr n cs' (lyB (r ++ [num]) s).1 (lyB (r ++ [num]) s).2)
    else if isLet c = true then lr n cs (lyB (r ++ [1000 + c - 97]) s).1 (lyB (r ++ [1000 + c - 97]) s).2
    else if c = 41 then
      (match (lyS 0 r s).2 with
        | [] => none
        | _ :: s1 => lr n cs (lyB (lyS 0 r s).1 s1).1 (lyB (lyS 0 r s).1 s1).2)
    else if 0 < rk c then lr n cs (lyS (rk c) r s).1 (c :: (lyS (rk c) r s).2)
    else lr n cs r (c :: s)
theorem lyB_len : ∀ (s r : List Int32), (lyB r s).1.length + (lyB r s).2.length = r.length + s.length
  | [], r => rfl
  | x :: l, r => by
    unfold lyB
    split
    · rw [lyB_len l]; simp; omega
    · rfl
theorem lyS_len (k : Int32) : ∀ (s r : List Int32), (lyS k r s).1.length + (lyS k r s).2.length = r.length + s.length
  | [], r => rfl
  | x :: l, r => by
    unfold lyS
    split
    · rfl
    · rw [lyS_len k l]; simp; omega
/-- how the row and the signs stand in the reference's fields -/
def arow (f : Nat → Int32) (r : List Int32) : Prop := ∀ (i : Nat) (x : Int32), r[i]? = some x → f i = x
def lS (sc : Nat → Int32) (ar : Nat → Nat → Int32) (r s : List Int32) : Prop :=
  sc 18 = nI r.length ∧ arow (ar 17) r ∧ sc 20 = nI s.length ∧ stk (ar 19) s ∧ r.length + s.length ≤ 40
theorem arow_app {f : Nat → Int32} {r : List Int32} {x : Int32} (h : arow f r) : arow (upd f r.length x) (r ++ [x]) := by
  intro i y hy
  by_cases hl : i < r.length
  · rw [List.getElem?_append_left hl] at hy
    rw [upd_n _ _ (by omega)]
    exact h i y hy
  · rw [List.getElem?_append_right (by omega)] at hy
    cases hz : i - r.length with
    | zero =>
      rw [hz] at hy
      cases hy
      have e : i = r.length := by omega
      rw [e, upd_s]
    | succ z => rw [hz] at hy; cases hy
theorem lS_lay {sc : Nat → Int32} {ar : Nat → Nat → Int32} {r s : List Int32} {x : Int32} (h : lS sc ar r s) (hl : r.length + 1 + s.length ≤ 40) : lS (upd sc 18 (sc 18 + 1)) (va_up ar 17 (upd (ar 17) r.length x)) (r ++ [x]) s := by
  obtain ⟨h1, h2, h3, h4, h5⟩ := h
  refine ⟨?_, ?_, ?_, ?_, ?_⟩
  · rw [upd_s, h1, nI_1]; simp
  · rw [va_up_self]; exact arow_app h2
  · rw [upd_n _ _ (by decide)]; exact h3
  · rw [va_up_ne _ _ (by decide)]; exact h4
  · simp; omega
theorem lS_pop {sc : Nat → Int32} {ar : Nat → Nat → Int32} {r l : List Int32} {x : Int32} (h : lS sc ar r (x :: l)) : lS (upd sc 20 (sc 20 - 1)) ar r l := by
  obtain ⟨h1, h2, h3, h4, h5⟩ := h
  refine ⟨?_, h2, ?_, h4.2, ?_⟩
  · rw [upd_n _ _ (by decide)]; exact h1
  · rw [upd_s, h3]; exact pk_sub (b := 1) (by simp)
  · simp at h5; omega
theorem lS_push {sc : Nat → Int32} {ar : Nat → Nat → Int32} {r s : List Int32} {x : Int32} (h : lS sc ar r s) (hl : r.length + (s.length + 1) ≤ 40) : lS (upd sc 20 (sc 20 + 1)) (va_up ar 19 (upd (ar 19) s.length x)) r (x :: s) := by
  obtain ⟨h1, h2, h3, h4, h5⟩ := h
  refine ⟨?_, ?_, ?_, ?_, ?_⟩
  · rw [upd_n _ _ (by decide)]; exact h1
  · rw [va_up_ne _ _ (by decide)]; exact h2
  · rw [upd_s, h3, nI_1]; simp
  · rw [va_up_self]; exact stk_push h4
  · simpa using hl
