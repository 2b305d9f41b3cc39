/-! ===== plain words: a factor; a whole text ===== -/
theorem dgs_nI {Q : Nat} (h : Q ≤ 999) : dgs (nI Q) = (if Q ≤ 99 then [] else [nI (48 + Q / 100)]) ++ (if Q ≤ 9 then [] else [nI (48 + Q / 10 % 10)]) ++ [nI (48 + Q % 10)] := by
  have e1 : nI Q / 100 = nI (Q / 100) := pk_div (d := 100) (by omega) (by decide) (by decide)
  have e2 : nI Q / 10 = nI (Q / 10) := pk_div (d := 10) (by omega) (by decide) (by decide)
  have e3 : rem10 (nI (Q / 10)) = nI (Q / 10 % 10) := pk_rem (d := 10) (by omega) (by decide) (by decide)
  have e4 : rem10 (nI Q) = nI (Q % 10) := pk_rem (d := 10) (by omega) (by decide) (by decide)
  have a : ∀ x : Nat, (48 : Int32) + nI x = nI (48 + x) := fun x => nI_add 48 x
  have i1 : (nI Q ≤ 99) = (Q ≤ 99) := propext (nI_leI (b := 99) (by omega) (by decide))
  have i2 : (nI Q ≤ 9) = (Q ≤ 9) := propext (nI_leI (b := 9) (by omega) (by decide))
  unfold dgs
  rw [e1, e2, e3, e4, a, a, a]
  congr 1
  congr 1
  · by_cases z : Q ≤ 99
    · rw [if_pos z, if_pos (by rw [i1]; exact z)]
    · rw [if_neg z, if_neg (by rw [i1]; exact z)]
  · by_cases z : Q ≤ 9
    · rw [if_pos z, if_pos (by rw [i2]; exact z)]
    · rw [if_neg z, if_neg (by rw [i2]; exact z)]
theorem dgs_1 {d : Nat} (h : d ≤ 9) : dgs (nI d) = [nI (48 + d)] := by
  rw [dgs_nI (by omega), if_pos (by omega), if_pos h, show d % 10 = d by omega]
  rfl
theorem dgs_st {Q d : Nat} (h0 : 0 < Q) (h : Q ≤ 99) (hd : d ≤ 9) : dgs (nI (10 * Q + d)) = dgs (nI Q) ++ [nI (48 + d)] := by
  rw [dgs_nI (by omega), dgs_nI (by omega)]
  by_cases z : Q ≤ 9
  · rw [if_pos (by omega), if_neg (by omega), if_pos (by omega), if_pos z, show (10 * Q + d) / 10 % 10 = Q % 10 by omega, show (10 * Q + d) % 10 = d by omega]
    rfl
  · rw [if_neg (by omega), if_neg (by omega), if_pos (by omega), if_neg z, show (10 * Q + d) / 10 % 10 = Q % 10 by omega, show (10 * Q + d) % 10 = d by omega, show (10 * Q + d) / 100 = Q / 10 % 10 by omega]
    rfl
theorem dig_of {c : Int32} (h : isDig c = true) : ∃ d : Nat, d ≤ 9 ∧ c = nI (48 + d) := by
  have h := of_decide_eq_true h
  obtain ⟨j, hj, rfl⟩ := nI_of2 (n := 57) (M := 57) rfl (fun z => absurd (Int32.lt_of_le_of_lt h.1 z) (by decide)) h.2
  have := (nI_leI (a := 48) (b := j) (by decide) (by omega)).mp h.1
  exact ⟨j - 48, by omega, by rw [show 48 + (j - 48) = j by omega]⟩
theorem dig_rk {c : Int32} (h : isDig c = true) : rkN c = 0 := by
  rcases Nat.eq_zero_or_pos (rkN c) with z | z
  · exact z
  · rw [(rkN_cls z).1] at h; cases h
theorem goes_none {c : Int32} (h : c ≠ 41) (hr : rkN c = 0) (os : List Int32) (rel : List Bool) : goesP c os rel = none := by
  unfold goesP
  rw [if_neg h, if_neg, if_neg, if_neg]
  · rintro (rfl | rfl | rfl) <;> exact absurd hr (by decide)
  · rintro (rfl | rfl) <;> exact absurd hr (by decide)
  · rintro (rfl | rfl | rfl) <;> exact absurd hr (by decide)
theorem goes_stop {c : Int32} {t os : List Int32} {rh : Bool} {rt : List Bool} (h : stO 0 (c :: t) rh) (h41 : c ≠ 41) : goesP c os (rh :: rt) = none := by
  rcases h c t rfl with z | z
  · exact goes_none h41 (by omega) _ _
  · unfold goesP
    have hc : c = 60 ∨ c = 61 ∨ c = 62 := by
      rcases rkN_pos (c := c) (by omega) with rfl | rfl | rfl | rfl | rfl | rfl | rfl | rfl
      all_goals first | exact absurd z.1 (by decide) | decide
    rw [if_neg h41, if_pos hc, if_pos (show (rh :: rt).headD false = true from z.2)]
theorem pe_none {c : Int32} {t os : List Int32} {rel : List Bool} (k : Nat) (h : goesP c os rel = none) : pe (c :: t) k false (-1) os rel = nI k := by
  rw [pe, if_neg (fun z => z.1 rfl), if_neg (by decide), h]
theorem dig_n41 {c : Int32} (h : isDig c = true) : c ≠ 41 := fun z => by rw [z] at h; exact absurd h (by decide)
theorem pe_num {q : Int32} {cs : List Int32} (h : ∀ (c : Int32) (t : List Int32), cs = c :: t → isDig c = true → q ≠ -1 ∧ (q = 0 ∨ 99 < q)) (k : Nat) (os : List Int32) (rel : List Bool) : pe cs k false q os rel = pe cs k false (-1) os rel := by
  cases cs with
  | nil => rfl
  | cons c t =>
    by_cases hd : isDig c = true
    · rw [pe_none k (goes_none (dig_n41 hd) (dig_rk hd) os rel), pe, if_pos ⟨(h c t rfl hd).1, hd⟩, if_pos (h c t rfl hd).2]
    · rw [pe, if_neg (fun z => hd z.2), if_neg (by decide), pe, if_neg (fun z => hd z.2), if_neg (by decide)]
theorem num_ok : ∀ (m Q : Nat) (cs : List Int32), (m = 2 → Q ≤ 9) → (m = 1 → 10 ≤ Q ∧ Q ≤ 99) → (m = 0 → 100 ≤ Q ∧ Q ≤ 999) → m ≤ 2 → ∃ n Q' : Nat, n + (cN m (nI Q) cs).2.length = cs.length ∧ (cN m (nI Q) cs).1 = nI Q' ∧ Q' ≤ 999 ∧ dgs (nI Q') = dgs (nI Q) ++ cs.take n ∧
    (∀ (k : Nat) (os : List Int32) (rel : List Bool), pe cs k false (nI Q) os rel = pe (cN m (nI Q) cs).2 (k + n) false (-1) os rel) ∧
    ((∀ (c : Int32) (t : List Int32), (cN m (nI Q) cs).2 = c :: t → isDig c = false) → rdN (nI Q) cs = cN m (nI Q) cs) := by
  intro m
  have fin : ∀ (Q : Nat) (cs : List Int32), Q ≤ 999 → (∀ (c : Int32) (t : List Int32), cs = c :: t → isDig c = true → nI Q ≠ -1 ∧ (nI Q = 0 ∨ 99 < nI Q)) → ∃ n Q' : Nat, n + cs.length = cs.length ∧ nI Q = nI Q' ∧ Q' ≤ 999 ∧ dgs (nI Q') = dgs (nI Q) ++ cs.take n ∧ (∀ (k : Nat) (os : List Int32) (rel : List Bool), pe cs k false (nI Q) os rel = pe cs (k + n) false (-1) os rel) ∧ ((∀ (c : Int32) (t : List Int32), cs = c :: t → isDig c = false) → rdN (nI Q) cs = (nI Q, cs)) := by
    intro Q cs hq h
    refine ⟨0, Q, Nat.zero_add _, rfl, hq, by simp, fun k os rel => pe_num h k os rel, fun hh => ?_⟩
    cases cs with
    | nil => rfl
    | cons c t => rw [rdN, if_neg (by rw [hh c t rfl]; decide)]
  have nm : ∀ Q : Nat, Q ≤ 999 → nI Q ≠ -1 := fun Q hq z => nI_pos (n := Q) (by omega) (by rw [z]; decide)
  induction m with
  | zero =>
    intro Q cs h2 h1 h0 hm
    have := h0 rfl
    exact fin Q cs this.2 (fun c t _ _ => ⟨nm Q this.2, Or.inr ((nI_ltI (a := 99) (by decide) (by omega)).mpr (by omega))⟩)
  | succ m ih =>
    intro Q cs h2 h1 h0 hm
    have hQ : Q ≤ 99 := by
      rcases Nat.lt_or_ge m 1 with z | z
      · exact (h1 (by omega)).2
      · have := h2 (by omega); omega
    cases cs with
    | nil => exact fin Q [] (by omega) (fun c t z => by cases z)
    | cons c t =>
      rw [cN]
      by_cases hd : isDig c = true ∧ 0 < nI Q
      · rw [if_pos hd]
        obtain ⟨d, hd9, rfl⟩ := dig_of hd.1
        have hQ0 : 0 < Q := (nI_ltI (a := 0) (by decide) (by omega)).mp hd.2
        have e : nI Q * 10 + (nI (48 + d) - 48) = nI (10 * Q + d) := by
          rw [show nI Q * 10 = nI (Q * 10) from pk_mul Q 10, show nI (48 + d) - 48 = nI (48 + d - 48) from pk_sub (b := 48) (by omega), nI_add]
          congr 1; omega
        have e2 : 10 * nI Q + nI (48 + d) - 48 = nI (10 * Q + d) := by
          rw [n10, nI_add, show nI (10 * Q + (48 + d)) - 48 = nI (10 * Q + (48 + d) - 48) from pk_sub (b := 48) (by omega)]
          congr 1; omega
        rw [e]
        obtain ⟨n, Q', g1, g2, g3, g4, g5, g6⟩ := ih (10 * Q + d) t (fun z => by omega) (fun z => by have := h2 (by omega); omega) (fun z => by have := h1 (by omega); omega) (by omega)
        refine ⟨n + 1, Q', (by simp; omega), g2, g3, ?_, fun k os rel => ?_, fun hh => ?_⟩
        · rw [g4, dgs_st hQ0 hQ hd9]; simp
        · rw [pe, if_pos ⟨nm Q (by omega), hd.1⟩, if_neg ?_, e2, g5, show k + 1 + n = k + (n + 1) by omega]
          rintro (z | z)
          · exact nI_ne0 hQ0 (by omega) z
          · have := (nI_ltI (a := 99) (b := Q) (by decide) (by omega)).mp z
            omega
        · rw [rdN, if_pos hd.1, e2]
          exact g6 hh
      · rw [if_neg hd]
        refine fin Q (c :: t) (by omega) (fun c2 t2 z hd2 => ?_)
        cases z
        refine ⟨nm Q (by omega), Or.inl ?_⟩
        have : Q = 0 := by
          rcases Nat.eq_zero_or_pos Q with z | z
          · exact z
          · exact absurd ⟨hd2, (nI_ltI (a := 0) (by decide) (by omega)).mpr z⟩ hd
        rw [this]; rfl
theorem segOK_num {n Q : Nat} (hn : 0 < n) (h : Q ≤ 999) (hl : (dgs (nI Q)).length ≤ n) : segOK n [nI Q] := by
  have h1 : nI Q < 1000 := (nI_ltI (b := 1000) (by omega) (by decide)).mpr (by omega)
  have h2 : nI Q < 2000 := (nI_ltI (b := 2000) (by omega) (by decide)).mpr (by omega)
  refine ⟨hn, blk_one h2, fun c hc => ?_, (by simp; omega), ?_⟩
  · rw [List.mem_singleton.mp hc]
    exact ⟨⟨nI_pos' (by omega), (nI_leI (b := 2200) (by omega) (by decide)).mpr (by omega)⟩, fun z => absurd z (Int32.not_le.mpr h1)⟩
  · rw [plS_one h2, atm, if_pos h1]
    omega
theorem let_of {c : Int32} (h : isLet c = true) : ∃ d : Nat, d < 6 ∧ c = nI (97 + d) ∧ 1000 + c - 97 = nI (1000 + d) := by
  have h := of_decide_eq_true h
  obtain ⟨j, hj, rfl⟩ := nI_of2 (n := 102) (M := 102) rfl (fun z => absurd (Int32.lt_of_le_of_lt h.1 z) (by decide)) h.2
  have := (nI_leI (a := 97) (b := j) (by decide) (by omega)).mp h.1
  refine ⟨j - 97, by omega, by rw [show 97 + (j - 97) = j by omega], ?_⟩
  rw [show (1000 : Int32) + nI j = nI (1000 + j) from nI_add 1000 j, show nI (1000 + j) - 97 = nI (1000 + j - 97) from pk_sub (b := 97) (by omega)]
  congr 1; omega
theorem segOK_let {c : Int32} (h : isLet c = true) : segOK 1 [1000 + c - 97] := by
  obtain ⟨d, hd, h1, h2⟩ := let_of h
  rw [h2]
  have h3 : nI (1000 + d) < 2000 := (nI_ltI (b := 2000) (by omega) (by decide)).mpr (by omega)
  have h4 : ¬ nI (1000 + d) < 1000 := fun z => by have := (nI_ltI (b := 1000) (by omega) (by decide)).mp z; omega
  refine ⟨by decide, blk_one h3, fun c hc => ?_, by simp, ?_⟩
  · rw [List.mem_singleton.mp hc]
    exact ⟨⟨nI_pos' (by omega), (nI_leI (b := 2200) (by omega) (by decide)).mpr (by omega)⟩, fun _ _ => ⟨d, hd, rfl⟩⟩
  · rw [plS_one h3, atm, if_neg h4]
    simp
theorem let_dig {c : Int32} (h : isLet c = true) : isDig c = false := by
  obtain ⟨d, hd, rfl, -⟩ := let_of h
  refine decide_eq_false (fun z => ?_)
  have := (nI_leI (b := 57) (by omega) (by decide)).mp z.2
  omega
theorem cFs_nil (i : Option (List Int32 → Bool × List Int32 × List Int32)) : cFs i [] = (false, [], []) := by cases i <;> rfl
theorem cFs_cons (i : Option (List Int32 → Bool × List Int32 × List Int32)) (c : Int32) (t : List Int32) : cFs i (c :: t) = if isDig c = true then (true, (cN 2 (c - 48) t).2, [(cN 2 (c - 48) t).1]) else if isLet c = true then (true, t, [1000 + c - 97]) else match i with | none => (false, c :: t, []) | some f => if c = 33 then cNot (f t) else if c = 40 then cBr (cL0 f t) else (false, c :: t, []) := by cases i <;> rfl
theorem cFs_dig {i : Option (List Int32 → Bool × List Int32 × List Int32)} {c : Int32} {t : List Int32} (h : isDig c = true) : cFs i (c :: t) = (true, (cN 2 (c - 48) t).2, [(cN 2 (c - 48) t).1]) := by rw [cFs_cons, if_pos h]
theorem cFs_let {i : Option (List Int32 → Bool × List Int32 × List Int32)} {c : Int32} {t : List Int32} (h : ¬ isDig c = true) (h2 : isLet c = true) : cFs i (c :: t) = (true, t, [1000 + c - 97]) := by rw [cFs_cons, if_neg h, if_pos h2]
theorem cFs_none {c : Int32} {t : List Int32} (h : ¬ isDig c = true) (h2 : ¬ isLet c = true) : cFs none (c :: t) = (false, c :: t, []) := by rw [cFs_cons, if_neg h, if_neg h2]
theorem cFs_some {f : List Int32 → Bool × List Int32 × List Int32} {c : Int32} {t : List Int32} (h : ¬ isDig c = true) (h2 : ¬ isLet c = true) : cFs (some f) (c :: t) = if c = 33 then cNot (f t) else if c = 40 then cBr (cL0 f t) else (false, c :: t, []) := by rw [cFs_cons, if_neg h, if_neg h2]
/-- a factor's first three roads -/
theorem fac_ok {o : Nat} {i : Option (List Int32 → Bool × List Int32 × List Int32)} (hi : (i = none ∧ o = 0) ∨ ∃ f o', i = some f ∧ o = o' + 1 ∧ facOK o' f) : facOK o (cFs i) := by
  intro cs hl
  cases cs with
  | nil => exact ⟨0, by rw [cFs_nil]; rfl, fun _ k os rh rt a => rfl, fun z => by rw [cFs_nil] at z; cases z⟩
  | cons c t =>
    have hlt : t.length ≤ 40 := by simp at hl; omega
    by_cases hd : isDig c = true
    · rw [cFs_dig hd]
      obtain ⟨d, hd9, rfl⟩ := dig_of hd
      rw [show nI (48 + d) - 48 = nI d from (pk_sub (b := 48) (by omega)).trans (congrArg nI (by omega))]
      obtain ⟨n, Q', g1, g2, g3, g4, g5, g6⟩ := num_ok 2 d t (fun _ => hd9) (fun z => (by cases z)) (fun z => (by cases z)) (by decide)
      refine ⟨n + 1, (by simp; omega), fun z => (by cases z), fun _ => ⟨?_, fun os rh rt a k => ?_, fun r s hh => ?_⟩⟩
      · show segOK (n + 1) [(cN 2 (nI d) t).1]
        rw [g2]
        refine segOK_num (by omega) g3 ?_
        rw [g4, dgs_1 hd9]
        simp
        omega
      · show pe (nI (48 + d) :: t) k true (-1) os (rh :: rt) = pe (cN 2 (nI d) t).2 (k + (n + 1)) false (-1) (endF os) (rh :: rt)
        rw [pe, if_neg (fun z => z.1 rfl), if_pos rfl, if_pos hd, show nI (48 + d) - 48 = nI d from (pk_sub (b := 48) (by omega)).trans (congrArg nI (by omega)), g5, show k + 1 + n = k + (n + 1) by omega]
      · show LR (nI (48 + d) :: t) r s = LR (cN 2 (nI d) t).2 (lyB (r ++ [(cN 2 (nI d) t).1]) s).1 (lyB (r ++ [(cN 2 (nI d) t).1]) s).2
        rw [LR_dig hd, show nI (48 + d) - 48 = nI d from (pk_sub (b := 48) (by omega)).trans (congrArg nI (by omega)), g6 hh]
    · have hd' : isDig c = false := by simpa using hd
      by_cases hlt2 : isLet c = true
      · rw [cFs_let hd hlt2]
        refine ⟨1, (by simp; omega), fun z => (by cases z), fun _ => ⟨segOK_let hlt2, fun os rh rt a k => ?_, fun r s hh => LR_let hd' hlt2 t r s⟩⟩
        show pe (c :: t) k true (-1) os (rh :: rt) = pe t (k + 1) false (-1) (endF os) (rh :: rt)
        rw [pe, if_neg (fun z => z.1 rfl), if_pos rfl, if_neg hd, if_pos hlt2]
      · have hpe : ∀ (k : Nat) (os : List Int32) (rel : List Bool), pe (c :: t) k true (-1) os rel = match opensP c os rel with | none => nI k | some q => pe t (k + 1) true (-1) q.1 q.2 := by
          intro k os rel
          rw [pe, if_neg (fun z => z.1 rfl), if_pos rfl, if_neg hd, if_neg hlt2]
          cases opensP c os rel <;> rfl
        rcases hi with ⟨rfl, rfl⟩ | ⟨f, o', rfl, rfl, hf⟩
        · rw [cFs_none hd hlt2]
          refine ⟨0, Nat.zero_add _, fun _ k os rh rt a => ?_, fun z => (by cases z)⟩
          rw [hpe, show opensP c os (rh :: rt) = none by unfold opensP; rw [if_neg (fun z => z.2 a)]]
          rfl
        · rw [cFs_some hd hlt2]
          by_cases h33 : c = 33
          · subst h33
            rw [if_pos rfl]
            obtain ⟨n, g1, g2, g3⟩ := hf t hlt
            have hop : ∀ (os : List Int32) (rel : List Bool), os.length + (o' + 1) = 6 → opensP 33 os rel = some (33 :: os, rel) := fun os rel a => by unfold opensP; rw [if_pos ⟨Or.inr rfl, by omega⟩]; rfl
            unfold cNot
            by_cases hok : (f t).1 = true
            · rw [if_pos hok]
              obtain ⟨b1, b2, b3⟩ := g3 hok
              refine ⟨n + 1, (by simp; omega), fun z => (by cases z), fun _ => ⟨segOK_not b1, fun os rh rt a k => ?_, fun r s hh => ?_⟩⟩
              · rw [hpe, hop os _ a]
                show pe t (k + 1) true (-1) (33 :: os) (rh :: rt) = pe (f t).2.1 (k + (n + 1)) false (-1) (endF os) (rh :: rt)
                rw [b2 (33 :: os) rh rt (by simp; omega), show k + 1 + n = k + (n + 1) by omega]
                rfl
              · rw [LR_op (Or.inl rfl), b3 _ _ hh]
                show LR _ (lyB (r ++ (f t).2.2) (33 :: s)).1 (lyB (r ++ (f t).2.2) (33 :: s)).2 = LR _ (lyB (r ++ ((f t).2.2 ++ [2033])) s).1 (lyB (r ++ ((f t).2.2 ++ [2033])) s).2
                rw [lyB, if_pos rfl, List.append_assoc]
            · rw [if_neg hok]
              refine ⟨n + 1, (by simp; omega), fun _ k os rh rt a => ?_, fun z => (by cases z)⟩
              rw [hpe, hop os _ a]
              show pe t (k + 1) true (-1) (33 :: os) (rh :: rt) = _
              rw [g2 (by simpa using hok) _ _ _ _ (by simp; omega), show k + 1 + n = k + (n + 1) by omega]
          · rw [if_neg h33]
            by_cases h40 : c = 40
            · subst h40
              rw [if_pos rfl]
              obtain ⟨n, g1, g2, g3⟩ := l0_ok (fOK_of hf) t hlt
              have hop : ∀ (os : List Int32) (rel : List Bool), os.length + (o' + 1) = 6 → opensP 40 os rel = some (40 :: os, false :: rel) := fun os rel a => by unfold opensP; rw [if_pos ⟨Or.inl rfl, by omega⟩]; rfl
              unfold cBr
              by_cases hok : (cL0 f t).1 = true
              · obtain ⟨b1, b2, b3⟩ := g3 hok
                by_cases h41 : (cL0 f t).2.1.head? = some 41
                · rw [if_pos ⟨hok, h41⟩]
                  obtain ⟨t2, ht2⟩ : ∃ t2, (cL0 f t).2.1 = 41 :: t2 := by
                    cases hz : (cL0 f t).2.1 with
                    | nil => rw [hz] at h41; cases h41
                    | cons x y => rw [hz] at h41; cases h41; exact ⟨y, rfl⟩
                  rw [ht2] at g1 b2 b3 ⊢
                  refine ⟨n + 2, (by simp at g1 ⊢; omega), fun z => (by cases z), fun _ => ⟨?_, fun os rh rt a k => ?_, fun r s hh => ?_⟩⟩
                  · exact ⟨by omega, b1.2.1, b1.2.2.1, Nat.le_trans b1.2.2.2.1 (by omega), Nat.le_trans b1.2.2.2.2 (by omega)⟩
                  · rw [hpe, hop os _ a]
                    show pe t (k + 1) true (-1) (40 :: os) (false :: rh :: rt) = pe t2 (k + (n + 2)) false (-1) (endF os) (rh :: rt)
                    obtain ⟨rh', e1, e2, e3⟩ := b2 (40 :: os) false (rh :: rt) (by simp; omega) (by rw [endF, if_neg (by decide)]) (fun _ => rfl)
                    rw [e3, pe, if_neg (fun z => z.1 rfl), if_neg (by decide), show goesP 41 (40 :: os) (rh' :: rh :: rt) = some (endF os, rh :: rt) by unfold goesP; rw [if_pos rfl, if_neg (by simp)]; rfl, show k + (n + 2) = k + 1 + n + 1 by omega]
                    rfl
                  · rw [LR_op (Or.inr rfl), b3 r (40 :: s) (fun x t z => by cases z; exact Or.inl rfl) (fun x t z => by cases z; exact ⟨by decide, Or.inl rfl⟩), LR_41 (x := 40) (s1 := s) t2 _ (by rw [lyS, if_pos (Or.inl rfl)]), lyS, if_pos (Or.inl rfl)]
                    rfl
                · rw [if_neg (fun z => h41 z.2)]
                  refine ⟨n + 1, (by simp; omega), fun _ k os rh rt a => ?_, fun z => (by cases z)⟩
                  rw [hpe, hop os _ a]
                  show pe t (k + 1) true (-1) (40 :: os) (false :: rh :: rt) = _
                  obtain ⟨rh', e1, e2, e3⟩ := b2 (40 :: os) false (rh :: rt) (by simp; omega) (by rw [endF, if_neg (by decide)]) (fun _ => rfl)
                  rw [e3, show k + (n + 1) = k + 1 + n by omega]
                  cases hz : (cL0 f t).2.1 with
                  | nil => rw [pe, if_pos (Or.inr (by simp))]
                  | cons x y =>
                    rw [hz] at e1 h41
                    exact pe_none _ (goes_stop e1 (fun w => h41 (by rw [w]; rfl)))
              · rw [if_neg (fun z => hok z.1)]
                refine ⟨n + 1, (by simp; omega), fun _ k os rh rt a => ?_, fun z => (by cases z)⟩
                rw [hpe, hop os _ a]
                show pe t (k + 1) true (-1) (40 :: os) (false :: rh :: rt) = _
                rw [g2 (by simpa using hok) _ _ _ _ (by simp; omega) (by rw [endF, if_neg (by decide)]) (fun _ => rfl), show k + 1 + n = k + (n + 1) by omega]
            · rw [if_neg h40]
              refine ⟨0, Nat.zero_add _, fun _ k os rh rt a => ?_, fun z => (by cases z)⟩
              rw [hpe, show opensP c os (rh :: rt) = none by unfold opensP; rw [if_neg (fun z => z.1.elim h40 h33)]]
              rfl
theorem cF_ok : ∀ o : Nat, facOK o (cF o)
  | 0 => fac_ok (Or.inl ⟨rfl, rfl⟩)
  | o + 1 => fac_ok (Or.inr ⟨cF o, o, rfl, rfl, cF_ok o⟩)
/-- the whole text -/
def cT (cs : List Int32) : Bool × List Int32 × List Int32 := cL0 (cF 6) cs
theorem cT_ok (cs : List Int32) (hl : cs.length ≤ 40) :
    ((cT cs).1 = true ∧ (cT cs).2.1 = [] → pe cs 0 true (-1) [] [false] = -1 ∧ lr cs.length cs [] [] = some (cT cs).2.2 ∧ segOK cs.length (cT cs).2.2) ∧
    (¬ ((cT cs).1 = true ∧ (cT cs).2.1 = []) → (cT cs).2.1.length ≤ cs.length ∧ pe cs 0 true (-1) [] [false] = nI (cs.length - (cT cs).2.1.length)) := by
  obtain ⟨n, h1, h2, h3⟩ := l0_ok (fOK_of (cF_ok 6)) cs hl
  have h1 : n + (cT cs).2.1.length = cs.length := h1
  have hn : cs.length - (cT cs).2.1.length = n := by omega
  refine ⟨fun z => ?_, fun z => ⟨by omega, ?_⟩⟩
  · obtain ⟨b1, b2, b3⟩ := h3 z.1
    obtain ⟨rh', e1, e2, e3⟩ := b2 [] false [] rfl rfl (fun _ => rfl)
    have hr : (cL0 (cF 6) cs).2.1 = [] := z.2
    rw [z.2] at h1
    have h1 : n = cs.length := h1
    refine ⟨?_, ?_, h1 ▸ b1⟩
    · rw [e3, hr]; rfl
    · have := b3 [] [] (fun x t z => by cases z) (fun x t z2 => by rw [hr] at z2; cases z2)
      rw [hr] at this
      exact this
  · rw [hn]
    by_cases hok : (cT cs).1 = true
    · obtain ⟨b1, b2, b3⟩ := h3 hok
      obtain ⟨rh', e1, e2, e3⟩ := b2 [] false [] rfl rfl (fun _ => rfl)
      rw [e3, Nat.zero_add]
      have hne : (cL0 (cF 6) cs).2.1 ≠ [] := fun w => z ⟨hok, w⟩
      cases hz : (cL0 (cF 6) cs).2.1 with
      | nil => exact absurd hz hne
      | cons x y =>
        rw [hz] at e1
        by_cases h41 : x = 41
        · subst h41
          exact pe_none n (by unfold goesP; rw [if_pos rfl, if_pos (by simp)])
        · exact pe_none n (goes_stop e1 h41)
    · have := h2 ((Bool.not_eq_true _).mp hok) 0 [] false [] rfl rfl (fun _ => rfl)
      rw [this, Nat.zero_add]
theorem hparse_ok : hparse := by
  intro cs hl hp
  obtain ⟨h1, h2⟩ := cT_ok cs hl
  by_cases z : (cT cs).1 = true ∧ (cT cs).2.1 = []
  · obtain ⟨-, a2, a3⟩ := h1 z
    have e : rowOf cs = (cT cs).2.2 := by unfold rowOf; rw [a2]; rfl
    rw [e]
    exact ⟨a2, a3.2.1, a3.2.2.1, Nat.le_trans a3.2.2.2.1 hl⟩
  · have := (h2 z).2
    rw [hp] at this
    exact absurd (by rw [← this]; decide) (nI_pos (n := cs.length - (cT cs).2.1.length) (by omega))
