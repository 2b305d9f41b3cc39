/-! ===== plain words: the order of a version ===== -/
theorem bit01 {x : Int32} {k : Nat} (hk : k < 32) : (x >>> (nI k &&& 31)) &&& 1 = bi (bitI x k) := by
  apply b_ext
  intro i hi
  rw [b_and, bt_1, b_sshr k hk x hi, bitI_bt hk]
  by_cases h0 : i = 0
  · subst h0
    rw [Nat.add_zero, if_pos hk, decide_eq_true rfl, Bool.and_true]
    cases hb : bt x k with
    | true => rw [bi_t, bt_1]; rfl
    | false => rw [bi_f, b_0]
  · rw [decide_eq_false h0, Bool.and_false]
    cases hb : bt x k with
    | true => rw [bi_t, bt_1, decide_eq_false h0]
    | false => rw [bi_f, b_0]
def wtO (R6 : Nat → List Int32) (dn : Int32) (o : Nat) : Bool := decide (R6 o ≠ []) && !bitI dn o
def canO (R6 : Nat → List Int32) (dn : Int32) (k : Nat) : Nat → Nat → Bool → Bool
  | _, 0, c => c
  | o, m + 1, c => canO R6 dn k (o + 1) m (c && !(wtO R6 dn o && anyE (1000 + nI o) (R6 k)))
def fndO (R6 : Nat → List Int32) (dn : Int32) : Nat → Nat → Option Nat
  | _, 0 => none
  | k, m + 1 => if canO R6 dn k 0 6 (wtO R6 dn k) = true then some k else fndO R6 dn (k + 1) m
def ordO (R6 : Nat → List Int32) : Nat → Int32 → List Nat → List Nat
  | 0, _, acc => acc
  | n + 1, dn, acc => match fndO R6 dn 0 6 with
    | none => ordO R6 n dn acc
    | some k => ordO R6 n (dn ||| b1 k) (acc ++ [k])
theorem fndO_lt {R6 : Nat → List Int32} {dn : Int32} : ∀ (m k j : Nat), fndO R6 dn k m = some j → k ≤ j ∧ j < k + m
  | 0, k, j, h => by cases h
  | m + 1, k, j, h => by
    unfold fndO at h
    split at h
    · cases h; omega
    · have := fndO_lt m (k + 1) j h
      omega
theorem ordO_len {R6 : Nat → List Int32} : ∀ (n : Nat) (dn : Int32) (acc : List Nat), (ordO R6 n dn acc).length ≤ acc.length + n
  | 0, dn, acc => Nat.le_refl _
  | n + 1, dn, acc => by
    unfold ordO
    split
    · have := ordO_len (R6 := R6) n dn acc; omega
    · rename_i k hk
      have := ordO_len (R6 := R6) n (dn ||| b1 k) (acc ++ [k])
      simp at this; omega
theorem ordO_mem {R6 : Nat → List Int32} : ∀ (n : Nat) (dn : Int32) (acc : List Nat), (∀ k ∈ acc, k < 6) → ∀ k ∈ ordO R6 n dn acc, k < 6
  | 0, dn, acc, h => h
  | n + 1, dn, acc, h => by
    unfold ordO
    split
    · exact ordO_mem n dn acc h
    · rename_i k hk
      refine ordO_mem n _ _ (fun j hj => ?_)
      rcases List.mem_append.mp hj with z | z
      · exact h j z
      · cases List.mem_singleton.mp z
        have := fndO_lt 6 0 k hk
        omega
def olist (f : Nat → Int32) (l : List Nat) : Prop := ∀ (i k : Nat), l[i]? = some k → f i = nI k
theorem olist_app {f : Nat → Int32} {l : List Nat} {k : Nat} (h : olist f l) : olist (upd f l.length (nI k)) (l ++ [k]) := by
  intro i y hy
  by_cases hl : i < l.length
  · rw [List.getElem?_append_left hl] at hy
    rw [upd_n _ _ (by omega)]
    exact h i y hy
  · rw [List.getElem?_append_right (by omega)] at hy
    cases hz : i - l.length with
    | zero =>
      rw [hz] at hy
      cases hy
      have e : i = l.length := by omega
      rw [e, upd_s]
    | succ z => rw [hz] at hy; cases hy
/-- a row's length in the reference's fields: is there a formula -/
theorem len_pos {x : Int32} {row : List Int32} (h : x = nI row.length) (hl : row.length ≤ 40) : (x ≤ 0 ↔ row = []) := by
  constructor
  · intro h1
    cases hr : row with
    | nil => rfl
    | cons a b =>
      rw [hr] at h hl
      exact absurd h1 (by rw [h]; exact nI_nle (by simp) (by omega))
  · intro h1
    rw [h, h1]
    decide
