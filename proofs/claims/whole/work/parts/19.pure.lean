/-! ===== plain words: what the reference does to its rows ===== -/
def isDig (c : Int32) : Bool := decide (48 ≤ c ∧ c ≤ 57)
def isLet (c : Int32) : Bool := decide (97 ≤ c ∧ c ≤ 102)
/-- a stack of numbers, top first, in an array from place 0 on -/
def stk (f : Nat → Int32) : List Int32 → Prop
  | [] => True
  | x :: l => f l.length = x ∧ stk f l
theorem stk_upd {f : Nat → Int32} {j : Nat} {x : Int32} : ∀ {l : List Int32}, l.length ≤ j → stk f l → stk (upd f j x) l
  | [], _, _ => trivial
  | y :: l, h, hs => ⟨by rw [upd_n f x (by simp at h; omega)]; exact hs.1, stk_upd (by simp at h; omega) hs.2⟩
theorem stk_push {f : Nat → Int32} {x : Int32} {l : List Int32} (h : stk f l) : stk (upd f l.length x) (x :: l) := ⟨upd_s f _ x, stk_upd (Nat.le_refl _) h⟩
theorem stk_top {f : Nat → Int32} {x y : Int32} {l : List Int32} (h : stk f (x :: l)) : stk (upd f l.length y) (y :: l) := stk_push h.2
/-- all but these fields and arrays is as it was -/
def ag (Ks Ka : List Nat) (sc : Nat → Int32) (ar : Nat → Nat → Int32) (sc' : Nat → Int32) (ar' : Nat → Nat → Int32) : Prop := (∀ k, k ∉ Ks → sc' k = sc k) ∧ ∀ k, k ∉ Ka → ar' k = ar k
section AG
variable {Ks Ka Ks' Ka' : List Nat} {sc sc' sc2 : Nat → Int32} {ar ar' ar2 : Nat → Nat → Int32}
theorem ag_rf : ag Ks Ka sc ar sc ar := ⟨fun _ _ => rfl, fun _ _ => rfl⟩
theorem ag_tr (h : ag Ks Ka sc ar sc' ar') (h2 : ag Ks Ka sc' ar' sc2 ar2) : ag Ks Ka sc ar sc2 ar2 := ⟨fun k hk => (h2.1 k hk).trans (h.1 k hk), fun k hk => (h2.2 k hk).trans (h.2 k hk)⟩
theorem ag_mono (h : ag Ks Ka sc ar sc' ar') (h1 : ∀ k ∈ Ks, k ∈ Ks') (h2 : ∀ k ∈ Ka, k ∈ Ka') : ag Ks' Ka' sc ar sc' ar' := ⟨fun k hk => h.1 k (fun z => hk (h1 k z)), fun k hk => h.2 k (fun z => hk (h2 k z))⟩
theorem ag_s (h : ag Ks Ka sc ar sc' ar') (k : Nat) (x : Int32) (hk : k ∈ Ks) : ag Ks Ka sc ar (upd sc' k x) ar' := ⟨fun j hj => (upd_n sc' x (fun z => hj (by rw [z]; exact hk))).trans (h.1 j hj), h.2⟩
theorem ag_a (h : ag Ks Ka sc ar sc' ar') (k : Nat) (f : Nat → Int32) (hk : k ∈ Ka) : ag Ks Ka sc ar sc' (va_up ar' k f) := ⟨h.1, fun j hj => (va_up_ne ar' f (fun z => hj (by rw [z]; exact hk))).trans (h.2 j hj)⟩
end AG
def tlist (f : Nat → Int32) : Nat → Nat → List Int32
  | _, 0 => []
  | k, m + 1 => f k :: tlist f (k + 1) m
-- the reference's scan
def endF : List Int32 → List Int32
  | [] => []
  | x :: l => if x = 33 then endF l else x :: l
theorem endF_len : ∀ l : List Int32, (endF l).length ≤ l.length
  | [] => Nat.le_refl _
  | x :: l => by
    unfold endF
    split
    · exact Nat.le_succ_of_le (endF_len l)
    · exact Nat.le_refl _
theorem endF_stk {f : Nat → Int32} : ∀ {l : List Int32}, stk f l → stk f (endF l)
  | [], _ => trivial
  | x :: l, h => by
    unfold endF
    split
    · exact endF_stk h.2
    · exact h
def c4 : List Int32 → Nat
  | [] => 0
  | x :: l => (if x = 40 then 1 else 0) + c4 l
theorem c4_le : ∀ l : List Int32, c4 l ≤ l.length
  | [] => Nat.le_refl _
  | x :: l => by
    have h := c4_le l
    unfold c4
    split <;> simp <;> omega
theorem c4_endF : ∀ l : List Int32, c4 (endF l) = c4 l
  | [] => rfl
  | x :: l => by
    unfold endF
    split
    · rename_i h
      rw [c4_endF l, h]
      simp [c4]
    · rfl
theorem endF_mem {x : Int32} : ∀ {l : List Int32}, x ∈ endF l → x ∈ l
  | [], h => h
  | y :: l, h => by
    unfold endF at h
    split at h
    · exact List.mem_cons_of_mem _ (endF_mem h)
    · exact h
theorem endF_hd : ∀ l : List Int32, (endF l).head? ≠ some 33
  | [] => by simp [endF]
  | y :: l => by
    unfold endF
    split
    · exact endF_hd l
    · rename_i h; simp [h]
def opensP (c : Int32) (os : List Int32) (rel : List Bool) : Option (List Int32 × List Bool) :=
  if (c = 40 ∨ c = 33) ∧ os.length ≠ 6 then some (c :: os, if c = 40 then false :: rel else rel) else none
def goesP (c : Int32) (os : List Int32) (rel : List Bool) : Option (List Int32 × List Bool) :=
  if c = 41 then (if rel.length ≤ 1 then none else some (endF os.tail, rel.tail))
  else if c = 60 ∨ c = 61 ∨ c = 62 then (if rel.headD false then none else some (os, true :: rel.tail))
  else if c = 38 ∨ c = 124 then some (os, false :: rel.tail)
  else if c = 42 ∨ c = 43 ∨ c = 45 then some (os, rel)
  else none
def pe : List Int32 → Nat → Bool → Int32 → List Int32 → List Bool → Int32
  | [], k, due, _, _, rel => if due = true ∨ 1 < rel.length then nI k else -1
  | c :: cs, k, due, num, os, rel =>
    if num ≠ -1 ∧ isDig c = true then (if num = 0 ∨ 99 < num then nI k else pe cs (k + 1) due (10 * num + c - 48) os rel)
    else if due = true then
      (if isDig c = true then pe cs (k + 1) false (c - 48) (endF os) rel
      else if isLet c = true then pe cs (k + 1) false (-1) (endF os) rel
      else match opensP c os rel with
        | none => nI k
        | some q => pe cs (k + 1) true (-1) q.1 q.2)
    else match goesP c os rel with
      | none => nI k
      | some q => pe cs (k + 1) (decide (c ≠ 41)) (-1) q.1 q.2
/-- how the scan stands in the reference's fields -/
def pS (sc : Nat → Int32) (ar : Nat → Nat → Int32) (os : List Int32) (rel : List Bool) : Prop :=
  sc 14 = nI os.length ∧ stk (ar 13) os ∧ os.length ≤ 6 ∧ sc 16 = nI (rel.length - 1) ∧ stk (ar 15) (rel.map bi) ∧ rel.length = c4 os + 1 ∧ ∀ x ∈ os, x = 40 ∨ x = 33
