/-! ===== plain words: a row as blocks; the plain text of a row ===== -/
theorem dp_app : ∀ (a b : List Int32) (d : Nat), dp (a ++ b) d = (dp a d).bind (dp b)
  | [], b, d => rfl
  | c :: a, b, d => by
    show dp (c :: (a ++ b)) d = _
    unfold dp
    split
    · exact dp_app a b (d + 1)
    · split
      · split
        · rfl
        · exact dp_app a b d
      · split
        · rfl
        · exact dp_app a b (d - 1)
theorem dp_shift : ∀ (l : List Int32) (d e k : Nat), dp l d = some e → dp l (d + k) = some (e + k)
  | [], d, e, k, h => by cases h; rfl
  | c :: l, d, e, k, h => by
    unfold dp at h ⊢
    split
    · rename_i h1
      rw [if_pos h1] at h
      rw [show d + k + 1 = d + 1 + k by omega]
      exact dp_shift l _ _ k h
    · rename_i h1
      rw [if_neg h1] at h
      split
      · rename_i h2
        rw [if_pos h2] at h
        split at h
        · cases h
        · rename_i h3
          rw [if_neg (by omega)]
          exact dp_shift l _ _ k h
      · rename_i h2
        rw [if_neg h2] at h
        split at h
        · cases h
        · rename_i h3
          rw [if_neg (by omega), show d + k - 1 = d - 1 + k by omega]
          exact dp_shift l _ _ k h
def blk (l : List Int32) : Prop := dp l 0 = some 1
theorem dp_one {c : Int32} {d : Nat} (h : c < 2000) : dp [c] d = some (d + 1) := by unfold dp; rw [if_pos h]; rfl
theorem dp_bang {d : Nat} : dp [2033] (d + 1) = some (d + 1) := by unfold dp; rw [if_neg (by decide), if_pos rfl, if_neg (by omega)]; rfl
theorem dp_bin {c : Int32} {d : Nat} (h1 : ¬ c < 2000) (h2 : ¬ c = 2033) : dp [c] (d + 2) = some (d + 1) := by unfold dp; rw [if_neg h1, if_neg h2, if_neg (by omega)]; rfl
theorem blk_one {c : Int32} (h : c < 2000) : blk [c] := dp_one h
theorem blk_bang {l : List Int32} (h : blk l) : blk (l ++ [2033]) := by unfold blk at *; rw [dp_app, h]; exact dp_bang
theorem blk_bin {a b : List Int32} {c : Int32} (ha : blk a) (hb : blk b) (h1 : ¬ c < 2000) (h2 : ¬ c = 2033) : blk (a ++ b ++ [c]) := by
  unfold blk at *
  rw [dp_app, dp_app, ha]
  show (dp b (0 + 1)).bind (dp [c]) = _
  rw [dp_shift b 0 1 1 hb]
  exact dp_bin h1 h2
/-- the last block of a row -/
theorem dp_last : ∀ (n : Nat) (l : List Int32) (k : Nat), l.length ≤ n → dp l 0 = some (k + 1) → ∃ a b, l = a ++ b ∧ dp a 0 = some k ∧ blk b ∧ ((∃ c, c < 2000 ∧ b = [c]) ∨ (∃ b', blk b' ∧ b = b' ++ [2033]) ∨ ∃ x y c, blk x ∧ blk y ∧ ¬ c < 2000 ∧ ¬ c = 2033 ∧ b = x ++ y ++ [c]) := by
  intro n
  induction n with
  | zero =>
    intro l k hl h
    have : l = [] := List.length_eq_zero_iff.mp (by omega)
    rw [this] at h
    cases h
  | succ n ih =>
    intro l k hl h
    rcases List.eq_nil_or_concat l with rfl | ⟨l', c, rfl⟩
    · cases h
    · rw [List.concat_eq_append] at h hl ⊢
      rw [dp_app] at h
      cases hd : dp l' 0 with
      | none => rw [hd] at h; cases h
      | some d =>
        rw [hd] at h
        have h' : dp [c] d = some (k + 1) := h
        have hl' : l'.length ≤ n := by simp at hl; omega
        by_cases h1 : c < 2000
        · rw [dp_one h1] at h'
          have : d = k := by injection h' with h'; omega
          subst this
          exact ⟨l', [c], rfl, hd, blk_one h1, Or.inl ⟨c, h1, rfl⟩⟩
        · by_cases h2 : c = 2033
          · subst h2
            unfold dp at h'
            rw [if_neg h1, if_pos rfl] at h'
            split at h'
            · cases h'
            · have : d = k + 1 := by injection h' with h'
              subst this
              obtain ⟨a, b, rfl, ha, hb, -⟩ := ih l' k hl' hd
              exact ⟨a, b ++ [2033], by rw [List.append_assoc], ha, blk_bang hb, Or.inr (Or.inl ⟨b, hb, rfl⟩)⟩
          · unfold dp at h'
            rw [if_neg h1, if_neg h2] at h'
            split at h'
            · cases h'
            · have : d = k + 1 + 1 := by injection h' with h'; omega
              subst this
              obtain ⟨a, b, rfl, ha, hb, -⟩ := ih l' (k + 1) hl' hd
              obtain ⟨x, y, rfl, hx, hy, -⟩ := ih a k (by simp at hl'; omega) ha
              exact ⟨x, y ++ b ++ [c], by simp [List.append_assoc], hx, blk_bin hy hb h1 h2, Or.inr (Or.inr ⟨y, b, c, hy, hb, h1, h2, rfl⟩)⟩
theorem dp_zero : ∀ (l : List Int32) (d : Nat), l ≠ [] → dp l d ≠ some 0
  | [], _, h => absurd rfl h
  | c :: l, d, _ => by
    intro h
    cases l with
    | nil =>
      unfold dp at h
      split at h
      · cases h
      · split at h
        · split at h
          · cases h
          · rename_i h3; have : d = 0 := by injection h
            exact h3 this
        · split at h
          · cases h
          · rename_i h3; have : d - 1 = 0 := by injection h
            omega
    | cons c2 l2 =>
      unfold dp at h
      split at h
      · exact dp_zero (c2 :: l2) _ (by simp) h
      · split at h
        · split at h
          · cases h
          · exact dp_zero (c2 :: l2) _ (by simp) h
        · split at h
          · cases h
          · exact dp_zero (c2 :: l2) _ (by simp) h
/-- induction over blocks -/
theorem blk_ind {Pr : List Int32 → Prop} (h1 : ∀ c : Int32, c < 2000 → Pr [c]) (h2 : ∀ l, blk l → Pr l → Pr (l ++ [2033])) (h3 : ∀ a b c, blk a → blk b → ¬ c < 2000 → ¬ c = 2033 → Pr a → Pr b → Pr (a ++ b ++ [c])) : ∀ (n : Nat) (l : List Int32), l.length ≤ n → blk l → Pr l := by
  intro n
  induction n with
  | zero =>
    intro l hl h
    have : l = [] := List.length_eq_zero_iff.mp (by omega)
    rw [this] at h
    cases h
  | succ n ih =>
    intro l hl h
    obtain ⟨a, b, rfl, ha, hb, hc⟩ := dp_last (n + 1) l 0 hl h
    have ha0 : a = [] := by
      cases a with
      | nil => rfl
      | cons x y => exact absurd ha (dp_zero _ _ (by simp))
    subst ha0
    rw [List.nil_append] at hl ⊢
    rcases hc with ⟨c, hc, rfl⟩ | ⟨b', hb', rfl⟩ | ⟨x, y, c, hx, hy, c1, c2, rfl⟩
    · exact h1 c hc
    · exact h2 b' hb' (ih b' (by simp at hl; omega) hb')
    · exact h3 x y c hx hy c1 c2 (ih x (by simp at hl; omega) hx) (ih y (by simp at hl; omega) hy)
-- the plain text
def rem10 (c : Int32) : Int32 := c - c / 10 * 10
def dgs (c : Int32) : List Int32 := (if c ≤ 99 then [] else [48 + c / 100]) ++ (if c ≤ 9 then [] else [48 + rem10 (c / 10)]) ++ [48 + rem10 c]
def atm (c : Int32) : List Int32 := if c < 1000 then dgs c else [97 + c - 1000]
def plR : List Int32 → List (List Int32) → List (List Int32)
  | [], st => st
  | c :: cs, st =>
    if c < 2000 then plR cs (atm c :: st)
    else if c = 2033 then plR cs ((33 :: st.headD []) :: st.tail)
    else plR cs ((40 :: (st.tail.headD [] ++ [c - 2000] ++ st.headD [] ++ [41])) :: st.tail.tail)
def plS (l : List Int32) : List Int32 := (plR l []).headD []
theorem plR_c1 {c : Int32} (h : c < 2000) (cs : List Int32) (st : List (List Int32)) : plR (c :: cs) st = plR cs (atm c :: st) := by rw [plR, if_pos h]
theorem plR_c2 (cs : List Int32) (st : List (List Int32)) : plR (2033 :: cs) st = plR cs ((33 :: st.headD []) :: st.tail) := by rw [plR, if_neg (by decide), if_pos rfl]
theorem plR_c3 {c : Int32} (h1 : ¬ c < 2000) (h2 : ¬ c = 2033) (cs : List Int32) (st : List (List Int32)) : plR (c :: cs) st = plR cs ((40 :: (st.tail.headD [] ++ [c - 2000] ++ st.headD [] ++ [41])) :: st.tail.tail) := by rw [plR, if_neg h1, if_neg h2]
theorem plR_app : ∀ (a b : List Int32) (st : List (List Int32)), plR (a ++ b) st = plR b (plR a st)
  | [], b, st => rfl
  | c :: a, b, st => by
    rw [List.cons_append]
    by_cases h1 : c < 2000
    · rw [plR_c1 h1, plR_c1 h1]; exact plR_app a b _
    · by_cases h2 : c = 2033
      · subst h2; rw [plR_c2, plR_c2]; exact plR_app a b _
      · rw [plR_c3 h1 h2, plR_c3 h1 h2]; exact plR_app a b _
theorem plR_blk {l : List Int32} (h : blk l) : ∀ st, plR l st = plS l :: st := by
  refine blk_ind (Pr := fun l => ∀ st, plR l st = plS l :: st) ?_ ?_ ?_ l.length l (Nat.le_refl _) h
  · intro c hc st
    show _ = (plR [c] []).headD [] :: st
    rw [plR_c1 hc, plR_c1 hc]
    rfl
  · intro l hl ih st
    show _ = (plR (l ++ [2033]) []).headD [] :: st
    rw [plR_app, plR_app, ih, ih, plR_c2, plR_c2]
    rfl
  · intro a b c ha hb h1 h2 iha ihb st
    show _ = (plR (a ++ b ++ [c]) []).headD [] :: st
    rw [plR_app, plR_app, plR_app, plR_app, iha, ihb, iha, ihb, plR_c3 h1 h2, plR_c3 h1 h2]
    rfl
theorem plS_one {c : Int32} (h : c < 2000) : plS [c] = atm c := by show (plR [c] []).headD [] = _; rw [plR_c1 h]; rfl
theorem plS_bang {l : List Int32} (h : blk l) : plS (l ++ [2033]) = 33 :: plS l := by
  show (plR (l ++ [2033]) []).headD [] = _
  rw [plR_app, plR_blk h, plR_c2]
  rfl
theorem plS_bin {a b : List Int32} {c : Int32} (ha : blk a) (hb : blk b) (h1 : ¬ c < 2000) (h2 : ¬ c = 2033) : plS (a ++ b ++ [c]) = 40 :: (plS a ++ [c - 2000] ++ plS b ++ [41]) := by
  show (plR (a ++ b ++ [c]) []).headD [] = _
  rw [plR_app, plR_app, plR_blk ha, plR_blk hb, plR_c3 h1 h2]
  rfl
theorem dgs_len (c : Int32) : (dgs c).length ≤ 3 := by
  unfold dgs
  split <;> split <;> simp
theorem atm_len (c : Int32) : (atm c).length ≤ 3 := by
  unfold atm
  split
  · exact dgs_len c
  · simp
theorem plS_len {l : List Int32} (h : blk l) : (plS l).length ≤ 3 * l.length := by
  refine blk_ind (Pr := fun l => (plS l).length ≤ 3 * l.length) ?_ ?_ ?_ l.length l (Nat.le_refl _) h
  · intro c hc
    rw [plS_one hc]
    have := atm_len c
    simpa using this
  · intro l hl ih
    rw [plS_bang hl]
    simp; omega
  · intro a b c ha hb h1 h2 iha ihb
    rw [plS_bin ha hb h1 h2]
    simp; omega
-- going backwards
def bsc : List Int32 → Nat → Option Nat
  | _, 0 => some 0
  | [], _ + 1 => none
  | c :: cs, n + 1 => (if c < 2000 then bsc cs n else if c = 2033 then bsc cs (n + 1) else bsc cs (n + 2)).map (· + 1)
theorem bsc_blk {l : List Int32} (h : blk l) : ∀ (r : List Int32) (n : Nat), bsc (l.reverse ++ r) (n + 1) = (bsc r n).map (· + l.length) := by
  refine blk_ind (Pr := fun l => ∀ (r : List Int32) (n : Nat), bsc (l.reverse ++ r) (n + 1) = (bsc r n).map (· + l.length)) ?_ ?_ ?_ l.length l (Nat.le_refl _) h
  · intro c hc r n
    show bsc (c :: r) (n + 1) = _
    rw [bsc, if_pos hc]
    rfl
  · intro l hl ih r n
    rw [List.reverse_append]
    show bsc (2033 :: (l.reverse ++ r)) (n + 1) = _
    rw [bsc, if_neg (by decide), if_pos rfl, ih, Option.map_map]
    simp [Function.comp_def, Nat.add_assoc]
  · intro a b c ha hb h1 h2 iha ihb r n
    rw [List.reverse_append, List.reverse_append]
    show bsc (c :: ((b.reverse ++ a.reverse) ++ r)) (n + 1) = _
    rw [bsc, if_neg h1, if_neg h2, List.append_assoc, ihb, iha, Option.map_map, Option.map_map]
    congr 1
    funext x
    simp [Function.comp_def]
    omega
