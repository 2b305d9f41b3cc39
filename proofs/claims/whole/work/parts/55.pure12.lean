/-! ===== plain words: the signs of a row; values of well typed rows ===== -/
theorem sgL_app {a b : List Int32} (ha : sgL a) (hb : sgL b) : sgL (a ++ b) := fun c hc => by
  rcases List.mem_append.mp hc with h | h
  · exact ha c h
  · exact hb c h
theorem sgL_sg {c : Int32} (h : 0 < rkN c) : sgL [2000 + c] := fun d hd _ => by
  rw [List.mem_singleton.mp hd, sg_back]
  exact Or.inr h
theorem sgL_nil : sgL [] := fun c hc => by cases hc
theorem sgL_low {c : Int32} (h : c < 2000) : sgL [c] := fun d hd h2 => by
  rw [List.mem_singleton.mp hd] at h2
  exact absurd h h2
theorem loop_sgL {f : List Int32 → Bool × List Int32 × List Int32} (hf : ∀ cs, sgL (f cs).2.2) (lv : Nat) : ∀ (m : Nat) (cs seg : List Int32), sgL seg → sgL (cLoop f lv m cs seg).2.2
  | 0, cs, seg, h => h
  | m + 1, [], seg, h => h
  | m + 1, c :: t, seg, h => by
    rw [cLoop]
    split
    · rename_i hc
      split
      · exact loop_sgL hf lv m _ _ (sgL_app (sgL_app h (hf t)) (sgL_sg (by omega)))
      · exact sgL_nil
    · exact h
theorem lv_sgL {f : List Int32 → Bool × List Int32 × List Int32} (hf : ∀ cs, sgL (f cs).2.2) (lv most : Nat) : ∀ cs, sgL (cLv f lv most cs).2.2 := by
  intro cs
  unfold cLv
  split
  · exact loop_sgL hf lv most _ _ (hf cs)
  · exact sgL_nil
theorem l0_sgL {f : List Int32 → Bool × List Int32 × List Int32} (hf : ∀ cs, sgL (f cs).2.2) : ∀ cs, sgL (cL0 f cs).2.2 := lv_sgL (lv_sgL (lv_sgL (lv_sgL (lv_sgL hf 4 40) 3 40) 2 1) 1 40) 0 40
theorem fs_sgL {i : Option (List Int32 → Bool × List Int32 × List Int32)} (hi : ∀ f, i = some f → ∀ cs, sgL (f cs).2.2) : ∀ cs, sgL (cFs i cs).2.2 := by
  intro cs
  cases cs with
  | nil => rw [cFs_nil]; exact sgL_nil
  | cons c t =>
    rw [cFs_cons]
    split
    · rename_i hd
      refine sgL_low ?_
      obtain ⟨d, hd9, rfl⟩ := dig_of hd
      rw [show nI (48 + d) - 48 = nI d from (pk_sub (b := 48) (by omega)).trans (congrArg nI (by omega))]
      obtain ⟨n, Q', g1, g2, g3, -⟩ := num_ok 2 d t (fun _ => hd9) (fun z => (by cases z)) (fun z => (by cases z)) (by decide)
      show (cN 2 (nI d) t).1 < 2000
      rw [g2]
      exact (nI_ltI (b := 2000) (by omega) (by decide)).mpr (by omega)
    · split
      · rename_i hl
        refine sgL_low ?_
        obtain ⟨d, hd, h1, h2⟩ := let_of hl
        rw [h2]
        exact (nI_ltI (b := 2000) (by omega) (by decide)).mpr (by omega)
      · cases i with
        | none => exact sgL_nil
        | some f =>
          show sgL (if c = 33 then cNot (f t) else if c = 40 then cBr (cL0 f t) else (false, c :: t, [])).2.2
          split
          · unfold cNot
            split
            · exact sgL_app (hi f rfl t) (fun d hd _ => Or.inl (List.mem_singleton.mp hd))
            · exact sgL_nil
          · split
            · unfold cBr
              split
              · exact l0_sgL (hi f rfl) t
              · exact sgL_nil
            · exact sgL_nil
theorem cF_sgL : ∀ (o : Nat) (cs : List Int32), sgL (cF o cs).2.2
  | 0 => fs_sgL (fun f h => by cases h)
  | o + 1 => fs_sgL (fun f h => by cases h; exact cF_sgL o)
theorem cT_sgL (cs : List Int32) : sgL (cT cs).2.2 := l0_sgL (cF_sgL 6) cs
-- types and values together
theorem tyF_bad (s a b : Int32) (h : a = -1 ∨ b = -1) : tyF s a b = -1 := by
  unfold tyF
  rcases h with rfl | rfl
  · split
    · rw [if_neg (fun z => z.2 rfl)]
    · split
      · rw [if_neg (fun z => absurd z.1 (by decide))]
      · split
        · rw [if_neg (fun z => absurd z.1 (by decide))]
        · rw [if_neg (fun z => absurd z.1 (by decide))]
  · split
    · rw [if_neg]
      rintro ⟨h1 | h1 | h1, h2⟩
      · exact h2 h1
      · exact absurd h1.2 (by decide)
      · exact absurd h1.2 (by decide)
    · split
      · rw [if_neg (fun z => absurd z.2 (by decide))]
      · split
        · rw [if_neg (fun z => absurd z.2 (by decide))]
        · rw [if_neg (fun z => absurd z.2 (by decide))]
theorem tyR_bad {ty : Nat → Int32} : ∀ (cs ts q : List Int32), (-1 : Int32) ∈ ts → tyR ty cs ts = some q → (-1 : Int32) ∈ q
  | [], ts, q, h, e => by cases e; exact h
  | c :: cs, ts, q, h, e => by
    by_cases h1 : c < 1000
    · rw [tyR_num h1] at e
      exact tyR_bad cs _ q (List.mem_cons_of_mem _ h) e
    · by_cases h2 : c < 2000
      · rw [tyR_let h1 h2] at e
        exact tyR_bad cs _ q (List.mem_cons_of_mem _ h) e
      · by_cases h3 : c = 2033
        · subst h3
          obtain ⟨a, s, rfl⟩ := rp_bng (by have := e; unfold tyR at this; exact this)
          rw [tyR_bng] at e
          refine tyR_bad cs _ q ?_ e
          rcases List.mem_cons.mp h with z | z
          · rw [← z]; exact List.mem_cons_self ..
          · exact List.mem_cons_of_mem _ z
        · obtain ⟨b, a, s, rfl⟩ := rp_bin h1 h2 h3 (by have := e; unfold tyR at this; exact this)
          rw [tyR_bin h1 h2 h3] at e
          refine tyR_bad cs _ q ?_ e
          rcases List.mem_cons.mp h with z | z
          · rw [tyF_bad _ _ _ (Or.inr z.symm)]; exact List.mem_cons_self ..
          · rcases List.mem_cons.mp z with z | z
            · rw [tyF_bad _ _ _ (Or.inl z.symm)]; exact List.mem_cons_self ..
            · exact List.mem_cons_of_mem _ z
def fl01 (t v : Int32) : Prop := t = 2 → v = 0 ∨ v = 1
def al : List Int32 → List Int32 → Prop
  | [], [] => True
  | t :: ts, v :: vs => fl01 t v ∧ al ts vs
  | _, _ => False
theorem bi_01 (b : Bool) : bi b = 0 ∨ bi b = 1 := by cases b <;> decide
/-- in well typed rows the class's values are the reference's -/
theorem va_eq {ty vl : Nat → Int32} (hl : ∀ j, j < 6 → fl01 (ty j) (vl j)) : ∀ (cs ts vs q : List Int32), tyR ty cs ts = some q → (-1 : Int32) ∉ q → al ts vs → okL cs → sgL cs → ∃ u, vaRK vl cs vs = some u ∧ vaR vl cs vs = some u ∧ al q u := by
  intro cs
  induction cs with
  | nil =>
    intro ts vs q e hq ha hok hsg
    cases e
    exact ⟨vs, rfl, rfl, ha⟩
  | cons c cs ih =>
    intro ts vs q e hq ha hok hsg
    have hok2 : okL cs := fun x hx => hok x (List.mem_cons_of_mem _ hx)
    have hsg2 : sgL cs := fun x hx => hsg x (List.mem_cons_of_mem _ hx)
    by_cases h1 : c < 1000
    · rw [tyR_num h1] at e
      rw [vaRK_num h1, vaR_num h1]
      exact ih _ _ q e hq ⟨fun z => absurd z (by decide), ha⟩ hok2 hsg2
    · by_cases h2 : c < 2000
      · rw [tyR_let h1 h2] at e
        rw [vaRK_let h1 h2, vaR_let h1 h2]
        obtain ⟨j, hj, hcj⟩ := (hok c (List.mem_cons_self ..)).2 (Int32.not_lt.mp h1) h2
        have hjn : (c - 1000).toNatClampNeg = j := by
          rw [hcj, show nI (1000 + j) - 1000 = nI (1000 + j - 1000) from pk_sub (b := 1000) (by omega), nI_clamp (by omega)]
          omega
        rw [hjn] at e ⊢
        refine ih _ _ q e hq ⟨fun z => ?_, ha⟩ hok2 hsg2
        refine hl j hj ?_
        unfold tyL at z
        split at z
        · exact absurd z (by decide)
        · exact z
      · by_cases h3 : c = 2033
        · subst h3
          obtain ⟨a, s, rfl⟩ := rp_bng (by have := e; unfold tyR at this; exact this)
          rw [tyR_bng] at e
          cases vs with
          | nil => exact ha.elim
          | cons v vs =>
            have ha2 : a = 2 := by
              refine Classical.byContradiction (fun z => hq (tyR_bad cs _ q ?_ e))
              unfold tyB
              rw [if_neg z]
              exact List.mem_cons_self ..
            have e1 : (if v = 0 then 1 else 0 : Int32) = 1 - v := by
              rcases ha.1 ha2 with rfl | rfl <;> decide
            rw [vaRK_bng, vaR_bng, e1]
            refine ih _ _ q e hq ⟨fun _ => ?_, ha.2⟩ hok2 hsg2
            rcases ha.1 ha2 with rfl | rfl <;> decide
        · obtain ⟨b, a, s, rfl⟩ := rp_bin h1 h2 h3 (by have := e; unfold tyR at this; exact this)
          rw [tyR_bin h1 h2 h3] at e
          cases vs with
          | nil => exact ha.elim
          | cons y vs =>
            cases vs with
            | nil => exact ha.2.elim
            | cons x vs =>
              have hne : tyF (c - 2000) a b ≠ -1 := fun z => hq (tyR_bad cs _ q (by rw [z]; exact List.mem_cons_self ..) e)
              have hk : 0 < rkN (c - 2000) := (hsg c (List.mem_cons_self ..) h2).resolve_left h3
              have key : vaK (c - 2000) x y = vaF (c - 2000) x y ∧ fl01 (tyF (c - 2000) a b) (vaF (c - 2000) x y) := by
                rcases rkN_pos hk with h | h | h | h | h | h | h | h <;> rw [h] at hne ⊢
                · refine ⟨rfl, fun z => ?_⟩
                  have z : (if a = 1 ∧ b = 1 then (1 : Int32) else -1) = 2 := z
                  split at z <;> exact absurd z (by decide)
                · refine ⟨rfl, fun z => ?_⟩
                  have z : (if a = 1 ∧ b = 1 then (1 : Int32) else -1) = 2 := z
                  split at z <;> exact absurd z (by decide)
                · refine ⟨rfl, fun z => ?_⟩
                  have z : (if a = 1 ∧ b = 1 then (1 : Int32) else -1) = 2 := z
                  split at z <;> exact absurd z (by decide)
                · exact ⟨rfl, fun _ => bi_01 _⟩
                · exact ⟨rfl, fun _ => bi_01 _⟩
                · exact ⟨rfl, fun _ => bi_01 _⟩
                · have hab : a = 2 ∧ b = 2 := by
                    refine Classical.byContradiction (fun z => hne ?_)
                    show (if a = 2 ∧ b = 2 then (2 : Int32) else -1) = -1
                    rw [if_neg z]
                  refine ⟨?_, fun _ => bi_01 _⟩
                  rcases ha.1 hab.2 with rfl | rfl <;> rcases ha.2.1 hab.1 with rfl | rfl <;> decide
                · have hab : a = 2 ∧ b = 2 := by
                    refine Classical.byContradiction (fun z => hne ?_)
                    show (if a = 2 ∧ b = 2 then (2 : Int32) else -1) = -1
                    rw [if_neg z]
                  refine ⟨?_, fun _ => bi_01 _⟩
                  rcases ha.1 hab.2 with rfl | rfl <;> rcases ha.2.1 hab.1 with rfl | rfl <;> decide
              rw [vaRK_bin h1 h2 h3, vaR_bin h1 h2 h3, key.1]
              exact ih _ _ q e hq ⟨key.2, ha.2.2⟩ hok2 hsg2
