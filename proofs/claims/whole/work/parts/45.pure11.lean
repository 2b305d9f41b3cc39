/-! ===== plain words: what the descent leaves is an end of the text; the steps of the class ===== -/
def sufOK (f : List Int32 → Bool × List Int32 × List Int32) : Prop := ∀ cs : List Int32, ∃ a, a ++ (f cs).2.1 = cs
theorem cN_suf : ∀ (m : Nat) (q : Int32) (cs : List Int32), ∃ a, a ++ (cN m q cs).2 = cs
  | 0, q, cs => ⟨[], rfl⟩
  | m + 1, q, [] => ⟨[], rfl⟩
  | m + 1, q, c :: t => by
    rw [cN]
    split
    · obtain ⟨a, h⟩ := cN_suf m (q * 10 + (c - 48)) t
      exact ⟨c :: a, by rw [List.cons_append, h]⟩
    · exact ⟨[], rfl⟩
theorem loop_suf {f : List Int32 → Bool × List Int32 × List Int32} (hf : sufOK f) (lv : Nat) : ∀ (m : Nat) (cs seg : List Int32), ∃ a, a ++ (cLoop f lv m cs seg).2.1 = cs
  | 0, cs, seg => ⟨[], rfl⟩
  | m + 1, [], seg => ⟨[], rfl⟩
  | m + 1, c :: t, seg => by
    rw [cLoop]
    obtain ⟨a, h⟩ := hf t
    split
    · split
      · obtain ⟨b, h2⟩ := loop_suf hf lv m (f t).2.1 (seg ++ (f t).2.2 ++ [2000 + c])
        exact ⟨c :: (a ++ b), by rw [List.cons_append, List.append_assoc, h2, h]⟩
      · exact ⟨c :: a, by rw [List.cons_append]; exact congrArg _ h⟩
    · exact ⟨[], rfl⟩
theorem lv_suf {f : List Int32 → Bool × List Int32 × List Int32} (hf : sufOK f) (lv most : Nat) : sufOK (cLv f lv most) := by
  intro cs
  obtain ⟨a, h⟩ := hf cs
  unfold cLv
  split
  · obtain ⟨b, h2⟩ := loop_suf hf lv most (f cs).2.1 (f cs).2.2
    exact ⟨a ++ b, by rw [List.append_assoc, h2, h]⟩
  · exact ⟨a, h⟩
theorem l0_suf {f : List Int32 → Bool × List Int32 × List Int32} (hf : sufOK f) : sufOK (cL0 f) := lv_suf (lv_suf (lv_suf (lv_suf (lv_suf hf 4 40) 3 40) 2 1) 1 40) 0 40
theorem not_suf {x : Bool × List Int32 × List Int32} {cs : List Int32} (h : ∃ a, a ++ x.2.1 = cs) : ∃ a, a ++ (cNot x).2.1 = cs := by
  unfold cNot
  split <;> exact h
theorem br_suf {x : Bool × List Int32 × List Int32} {cs : List Int32} (h : ∃ a, a ++ x.2.1 = cs) : ∃ a, a ++ (cBr x).2.1 = cs := by
  obtain ⟨a, h⟩ := h
  unfold cBr
  split
  · rename_i h2
    cases hz : x.2.1 with
    | nil => exact ⟨a, by rw [hz] at h; exact h⟩
    | cons c t => exact ⟨a ++ [c], by rw [hz] at h; rw [← h]; simp⟩
  · exact ⟨a, h⟩
theorem fs_suf {i : Option (List Int32 → Bool × List Int32 × List Int32)} (hi : ∀ f, i = some f → sufOK f) : sufOK (cFs i) := by
  intro cs
  cases cs with
  | nil => exact ⟨[], by rw [cFs_nil]; rfl⟩
  | cons c t =>
    rw [cFs_cons]
    split
    · obtain ⟨a, h⟩ := cN_suf 2 (c - 48) t
      exact ⟨c :: a, by rw [List.cons_append]; exact congrArg _ h⟩
    · split
      · exact ⟨[c], rfl⟩
      · cases i with
        | none => exact ⟨[], rfl⟩
        | some f =>
          show ∃ a, a ++ (if c = 33 then cNot (f t) else if c = 40 then cBr (cL0 f t) else (false, c :: t, [])).2.1 = c :: t
          split
          · obtain ⟨a, h⟩ := not_suf (hi f rfl t)
            exact ⟨c :: a, by rw [List.cons_append, h]⟩
          · split
            · obtain ⟨a, h⟩ := br_suf (l0_suf (hi f rfl) t)
              exact ⟨c :: a, by rw [List.cons_append, h]⟩
            · exact ⟨[], rfl⟩
theorem cF_suf : ∀ o : Nat, sufOK (cF o)
  | 0 => fs_suf (fun f h => by cases h)
  | o + 1 => fs_suf (fun f h => by cases h; exact cF_suf o)
theorem tl_suf {tx : Nat → Int32} {tn : Nat} {rest : List Int32} : ∀ (a : List Int32) (p : Nat), p ≤ tn → a ++ rest = tlist tx p (tn - p) → rest = tlist tx (tn - rest.length) (tn - (tn - rest.length)) ∧ rest.length ≤ tn - p
  | [], p, hp, h => by
    have hl := congrArg List.length h
    rw [tlist_len] at hl
    have hl : rest.length = tn - p := hl
    rw [hl, show tn - (tn - p) = p by omega]
    exact ⟨h, Nat.le_refl _⟩
  | x :: a, p, hp, h => by
    have hl := congrArg List.length h
    rw [tlist_len] at hl
    simp at hl
    rw [tl_cons (by omega)] at h
    injection h with h1 h2
    obtain ⟨e1, e2⟩ := tl_suf a (p + 1) (by omega) h2
    exact ⟨e1, by omega⟩
/-- a step of the class -/
def stc (c : Int32) : Int32 := if c < 2000 then c else 2000 - c
theorem msk_app : ∀ (a b : List Int32) (s : Int32), msk s (a ++ b) = msk (msk s a) b
  | [], _, _ => rfl
  | c :: a, b, s => by
    show msk s (c :: (a ++ b)) = _
    rw [msk, msk]
    exact msk_app a b _
theorem msk_n {c : Int32} (h : ¬ (1000 ≤ c ∧ c ≤ 1005)) (s : Int32) : msk s [c] = s := by rw [msk, if_neg h, msk]; exact Int32.or_zero
theorem stc_sg {c : Int32} (h : 0 < rkN c) : stc (2000 + c) = -c := by
  rcases rkN_pos h with rfl | rfl | rfl | rfl | rfl | rfl | rfl | rfl <;> decide
theorem msk_sg {c : Int32} (h : 0 < rkN c) (s : Int32) : msk s [2000 + c] = s := by
  refine msk_n (fun z => ?_) s
  rcases rkN_pos h with rfl | rfl | rfl | rfl | rfl | rfl | rfl | rfl <;> exact absurd z.2 (by decide)
theorem sg_back (c : Int32) : 2000 + c - 2000 = c := by rw [Int32.add_comm, Int32.add_sub_cancel]
theorem num_fin {c : Int32} (h : isDig c = true) (t : List Int32) (s : Int32) : msk s [(cN 2 (c - 48) t).1] = s ∧ stc (cN 2 (c - 48) t).1 = (cN 2 (c - 48) t).1 ∧ plS [(cN 2 (c - 48) t).1] = (c :: t).take (t.length + 1 - (cN 2 (c - 48) t).2.length) := by
  obtain ⟨d, hd9, rfl⟩ := dig_of h
  rw [show nI (48 + d) - 48 = nI d from (pk_sub (b := 48) (by omega)).trans (congrArg nI (by omega))]
  obtain ⟨n, Q', g1, g2, g3, g4, -⟩ := num_ok 2 d t (fun _ => hd9) (fun z => (by cases z)) (fun z => (by cases z)) (by decide)
  rw [g2]
  have h1 : nI Q' < 1000 := (nI_ltI (b := 1000) (by omega) (by decide)).mpr (by omega)
  have h2 : nI Q' < 2000 := (nI_ltI (b := 2000) (by omega) (by decide)).mpr (by omega)
  refine ⟨msk_n (fun z => absurd z.1 (Int32.not_le.mpr h1)) s, if_pos h2, ?_⟩
  rw [plS_one h2, atm, if_pos h1, g4, dgs_1 hd9, show t.length + 1 - (cN 2 (nI d) t).2.length = n + 1 by omega, List.take_succ_cons]
  rfl
theorem let_fin {c : Int32} (h : isLet c = true) (s : Int32) : msk s [1000 + c - 97] = s ||| 1 <<< (c - 97 &&& 31) ∧ stc (1000 + c - 97) = 1000 + (c - 97) ∧ plS [1000 + c - 97] = [c] := by
  obtain ⟨d, hd, h1, h2⟩ := let_of h
  rw [h2]
  have e : c - 97 = nI d := by rw [h1]; exact (pk_sub (b := 97) (by omega)).trans (congrArg nI (by omega))
  have h3 : nI (1000 + d) < 2000 := (nI_ltI (b := 2000) (by omega) (by decide)).mpr (by omega)
  have h4 : ¬ nI (1000 + d) < 1000 := fun z => by have := (nI_ltI (b := 1000) (by omega) (by decide)).mp z; omega
  refine ⟨?_, ?_, ?_⟩
  · rw [msk, if_pos ⟨(nI_leI (a := 1000) (by decide) (by omega)).mpr (by omega), (nI_leI (b := 1005) (by omega) (by decide)).mpr (by omega)⟩, msk, e, show nI (1000 + d) - 1000 = nI d from (pk_sub (b := 1000) (by omega)).trans (congrArg nI (by omega))]
  · rw [stc, if_pos h3, e]; exact (nI_add 1000 d).symm
  · rw [plS_one h3, atm, if_neg h4, h1]
    congr 1
    rw [show (97 : Int32) + nI (1000 + d) = nI (97 + (1000 + d)) from nI_add 97 _]
    exact (pk_sub (b := 1000) (by omega)).trans (congrArg nI (by omega))
