/-! ===== the class: its reading of the text ===== -/
section S3
/-- what a reading of a part leaves -/
def pO (c0 : va_E) (tx : Nat → Int32) (tn : Nat) (tl : List va_E) (res : Bool × List Int32 × List Int32) (lt : Int32) (Y X : List Int32) : aw_R → List va_E → Prop := fun r w' => (res.1 = true → sR c0 tx tn tl (.inl (some (.int 1))) (tn - res.2.1.length) (msk lt res.2.2) (Y ++ res.2.2.map stc) (X ++ plS res.2.2) r w') ∧ (res.1 = false → sX c0 tx tn tl (tn - res.2.1.length) r w')
theorem sR_of {c0 : va_E} {tx : Nat → Int32} {tn : Nat} {tl : List va_E} {r0 : aw_R} {p p' k l : Nat} {lt lt' : Int32} {Y X : List Int32} {st pn : Nat → Int32} (hY : arow st Y) (hX : arow pn X) (hp : p' = p) (hk : k = Y.length) (hl : l = X.length) (hlt : lt' = lt) : sR c0 tx tn tl r0 p lt Y X r0 (sW c0 tx tn p' k l lt' st pn tl) := by
  subst hp hk hl hlt
  exact ⟨rfl, _, _, rfl, hY, hX⟩
theorem pO_t {c0 : va_E} {tx : Nat → Int32} {tn : Nat} {tl : List va_E} {res : Bool × List Int32 × List Int32} {rest seg : List Int32} {p' k l : Nat} {lt lt' : Int32} {Y X : List Int32} {st pn : Nat → Int32} (h : res = (true, rest, seg)) (hY : arow st (Y ++ seg.map stc)) (hX : arow pn (X ++ plS seg)) (hp : p' = tn - rest.length) (hk : k = (Y ++ seg.map stc).length) (hl : l = (X ++ plS seg).length) (hlt : lt' = msk lt seg) : pO c0 tx tn tl res lt Y X (.inl (some (.int 1))) (sW c0 tx tn p' k l lt' st pn tl) := by
  subst h
  exact ⟨fun _ => sR_of hY hX hp hk hl hlt, fun z => (by cases z)⟩
theorem pO_f {c0 : va_E} {tx : Nat → Int32} {tn : Nat} {tl : List va_E} {res : Bool × List Int32 × List Int32} {rest seg : List Int32} {p' k l : Nat} {lt lt' : Int32} {Y X : List Int32} {st pn : Nat → Int32} (h : res = (false, rest, seg)) (hk : k ≤ 40) (hl : l ≤ 80) (hp : p' = tn - rest.length) : pO c0 tx tn tl res lt Y X (.inl (some (.int 0))) (sW c0 tx tn p' k l lt' st pn tl) := by
  subst h hp
  exact ⟨fun z => (by cases z), fun _ => ⟨rfl, k, l, lt', st, pn, hk, hl, rfl⟩⟩
section PK
variable {G : aw_G} {F : aw_F} {kc ks : Nat} {w : List va_E} {pc : Nat} {loc : List (Option Value)} {rest : List Value} {Q : aw_R → List va_E → Prop} {c0 : va_E} {tx : Nat → Int32} {tn : Nat} {tl : List va_E} {res : Bool × List Int32 × List Int32} {lt : Int32} {Y X : List Int32}
theorem aw_kO (h1 : res.1 = true → ∀ st pn : Nat → Int32, arow st (Y ++ res.2.2.map stc) → arow pn (X ++ plS res.2.2) → AW G F kc ks (sW c0 tx tn (tn - res.2.1.length) (Y ++ res.2.2.map stc).length (X ++ plS res.2.2).length (msk lt res.2.2) st pn tl) pc loc (.int 1 :: rest) Q) (h2 : res.1 = false → ∀ (k l : Nat) (lt : Int32) (st pn : Nat → Int32), k ≤ 40 → l ≤ 80 → AW G F kc ks (sW c0 tx tn (tn - res.2.1.length) k l lt st pn tl) pc loc (.int 0 :: rest) Q) : ∀ (r : Option Value) (w' : List va_E), pO c0 tx tn tl res lt Y X (.inl r) w' → w.length ≤ w'.length → AW G F kc ks w' pc loc (r.toList ++ rest) Q := by
  rintro r w' ⟨a, b⟩ -
  by_cases hr : res.1 = true
  · obtain ⟨e, st, pn, rfl, hs, hp⟩ := a hr
    cases e
    exact h1 hr st pn hs hp
  · obtain ⟨e, k, l, lt, st, pn, hk, hl, rfl⟩ := b ((Bool.not_eq_true _).mp hr)
    cases e
    exact h2 ((Bool.not_eq_true _).mp hr) k l lt st pn hk hl
theorem aw_tO : ∀ (E : String) (w' : List va_E), pO c0 tx tn tl res lt Y X (.inr E) w' → w.length ≤ w'.length → Q (.inr E) w' := by
  rintro E w' ⟨a, b⟩ -
  by_cases hr : res.1 = true
  · obtain ⟨e, -⟩ := a hr; cases e
  · obtain ⟨e, -⟩ := b ((Bool.not_eq_true _).mp hr); cases e
theorem aw_kR {p : Nat} (h1 : ∀ st pn : Nat → Int32, arow st Y → arow pn X → AW G F kc ks (sW c0 tx tn p Y.length X.length lt st pn tl) pc loc rest Q) : ∀ (r : Option Value) (w' : List va_E), sR c0 tx tn tl (.inl none) p lt Y X (.inl r) w' → w.length ≤ w'.length → AW G F kc ks w' pc loc (r.toList ++ rest) Q := by
  rintro r w' ⟨e, st, pn, rfl, hs, hp⟩ -
  cases e
  exact h1 st pn hs hp
theorem aw_tR {p : Nat} : ∀ (E : String) (w' : List va_E), sR c0 tx tn tl (.inl none) p lt Y X (.inr E) w' → w.length ≤ w'.length → Q (.inr E) w' := by
  rintro E w' ⟨e, -⟩ -
  cases e
end PK
def factC (G : aw_G) (c0 : va_E) (tx : Nat → Int32) (tn : Nat) (tl : List va_E) (o d : Nat) : Prop := ∀ (p : Nat) (lt : Int32) (Y X : List Int32) (st pn : Nat → Int32), p ≤ tn → Y.length ≤ p → X.length ≤ 2 * p → arow st Y → arow pn X → AM G (fX4_readFactor d) [.ref 1, .int (nI (6 - o))] (sW c0 tx tn p Y.length X.length lt st pn tl) (pO c0 tx tn tl (cF o (tlist tx p (tn - p))) lt Y X)
def partsC (G : aw_G) (c0 : va_E) (tx : Nat → Int32) (tn : Nat) (tl : List va_E) (f : List Int32 → Bool × List Int32 × List Int32) (lv op d : Nat) : Prop := ∀ (p : Nat) (lt : Int32) (Y X : List Int32) (st pn : Nat → Int32), p ≤ tn → Y.length ≤ p → X.length ≤ 2 * p → arow st Y → arow pn X → AM G (fX4_readParts d) [.ref 1, .int (nI lv), .int (nI op)] (sW c0 tx tn p Y.length X.length lt st pn tl) (pO c0 tx tn tl (f (tlist tx p (tn - p))) lt Y X)
set_option maxRecDepth 100000 in
set_option maxHeartbeats 4000000 in
theorem ac_readNot {G : aw_G} {c0 : va_E} {tx : Nat → Int32} {tn : Nat} {tl : List va_E} (htn : tn ≤ 40) (hch : chOK tx tn) {o d op : Nat} (hop : op = 6 - o) (hd : 8 * o + 2 ≤ d) (hF : factC G c0 tx tn tl o (8 * o)) (p : Nat) (lt : Int32) (Y X : List Int32) (st pn : Nat → Int32) (hp : p ≤ tn) (hYp : Y.length + 1 ≤ p) (hXp : X.length + 2 ≤ 2 * p) (hY : arow st Y) (hX : arow pn X) : AM G (fX4_readNot d) [.ref 1, .int (nI op)] (sW c0 tx tn p Y.length X.length lt st pn tl) (pO c0 tx tn tl (cNot (cF o (tlist tx p (tn - p)))) lt Y X) := by
  subst hop
  have hXl1 : X.length + 1 = (X ++ [33]).length := by simp
  refine AM_of (show plainName RX4 = true by decide) rfl rfl (Nat.le_of_ble_eq_true rfl) ?_
  show AW G (fX4_readNot d) 0 0 (sW c0 tx tn p Y.length X.length lt st pn tl) 0 [some (.ref 1), some (.int (nI (6 - o)))] [] _
  refine r_aload_n (pc := 0) dX4_readNot_0 rfl rfl ?_
  refine r_bipush (pc := 1) (v := 33) dX4_readNot_1 (by decide) ?_
  refine s_X4_69 (pc := 3) (kc' := 0) (ks' := 0) rfl rfl (ac_writePlain (by omega) _) rfl (by simp only [aw_fr, aw_lo, fX4_readParts, fX4_readFactor, fX4_readNot, fX4_readBracket, fX4_next, fX4_isDigit, fX4_levelOf, fX4_addStep, fX4_writePlain, fX4_openPlain, fX4_readLetter, fX4_readNumber]; omega) (by simp only [aw_fr, aw_lo, fX4_readParts, fX4_readFactor, fX4_readNot, fX4_readBracket, fX4_next, fX4_isDigit, fX4_levelOf, fX4_addStep, fX4_writePlain, fX4_openPlain, fX4_readLetter, fX4_readNumber]; omega) (Nat.le_of_ble_eq_true rfl) (Nat.le_of_ble_eq_true rfl) (by exact (Nat.le_of_ble_eq_true rfl)) rfl (List.forall_mem_cons.mpr ⟨rfl, (List.forall_mem_cons.mpr ⟨rfl, fun _ h => nomatch h⟩)⟩) rfl dX4_readNot_3 aw_kt (aw_kv ?_)
  refine r_aload_n (pc := 6) dX4_readNot_6 rfl rfl ?_
  refine r_iload_n (pc := 7) dX4_readNot_7 rfl rfl ?_
  rw [hXl1]
  refine s_X4_53 (pc := 8) (kc' := 0) (ks' := 0) rfl rfl (hF p lt Y (X ++ [33]) st (upd pn X.length 33) hp (by omega) (by simp; omega) hY (arow_up hX rfl)) rfl (by simp only [aw_fr, aw_lo, fX4_readParts, fX4_readFactor, fX4_readNot, fX4_readBracket, fX4_next, fX4_isDigit, fX4_levelOf, fX4_addStep, fX4_writePlain, fX4_openPlain, fX4_readLetter, fX4_readNumber]; omega) (by simp only [aw_fr, aw_lo, fX4_readParts, fX4_readFactor, fX4_readNot, fX4_readBracket, fX4_next, fX4_isDigit, fX4_levelOf, fX4_addStep, fX4_writePlain, fX4_openPlain, fX4_readLetter, fX4_readNumber]; omega) (Nat.le_of_ble_eq_true rfl) (Nat.le_of_ble_eq_true rfl) (by exact (Nat.le_of_ble_eq_true rfl)) rfl (List.forall_mem_cons.mpr ⟨rfl, (List.forall_mem_cons.mpr ⟨rfl, fun _ h => nomatch h⟩)⟩) rfl dX4_readNot_8 aw_tO (aw_kO (fun hok st2 pn2 hY2 hX2 => ?_) (fun hok k2 l2 lt2 st2 pn2 hk2 hl2 => ?_))
  · refine r_if_ne (pc := 11) (tgt := 16) dX4_readNot_11 (by decide) (fun _ => ?_) (fun h => absurd h (by decide))
    obtain ⟨n, hn, -, hb⟩ := cF_ok o (tlist tx p (tn - p)) (by rw [tlist_len]; omega)
    have hseg := (hb hok).1
    rw [tlist_len] at hn
    have hs1 := hseg.2.2.2.1
    have hs2 := hseg.2.2.2.2
    have hYl2 : (Y ++ (cF o (tlist tx p (tn - p))).2.2.map stc).length < 40 := by simp; omega
    refine r_aload_n (pc := 16) dX4_readNot_16 rfl rfl ?_
    refine r_bipush (pc := 17) (v := -33) dX4_readNot_17 (by decide) ?_
    refine s_X4_73 (pc := 19) (kc' := 0) (ks' := 0) rfl rfl (ac_addStep hYl2 _) rfl (by simp only [aw_fr, aw_lo, fX4_readParts, fX4_readFactor, fX4_readNot, fX4_readBracket, fX4_next, fX4_isDigit, fX4_levelOf, fX4_addStep, fX4_writePlain, fX4_openPlain, fX4_readLetter, fX4_readNumber]; omega) (by simp only [aw_fr, aw_lo, fX4_readParts, fX4_readFactor, fX4_readNot, fX4_readBracket, fX4_next, fX4_isDigit, fX4_levelOf, fX4_addStep, fX4_writePlain, fX4_openPlain, fX4_readLetter, fX4_readNumber]; omega) (Nat.le_of_ble_eq_true rfl) (Nat.le_of_ble_eq_true rfl) (by exact (Nat.le_of_ble_eq_true rfl)) rfl (List.forall_mem_cons.mpr ⟨rfl, (List.forall_mem_cons.mpr ⟨rfl, fun _ h => nomatch h⟩)⟩) rfl dX4_readNot_19 aw_kt (aw_kv ?_)
    refine r_iconst (pc := 22) (v := 1) dX4_readNot_22 (by decide) ?_
    refine r_iret (pc := 23) rfl rfl dX4_readNot_23 ?_
    refine pO_t (rest := (cF o (tlist tx p (tn - p))).2.1) (seg := (cF o (tlist tx p (tn - p))).2.2 ++ [2033]) (if_pos hok) ?_ ?_ rfl ?_ ?_ ?_
    · rw [List.map_append, ← List.append_assoc]
      exact arow_up hY2 rfl
    · rw [plS_bang hseg.2.1]
      simpa using hX2
    · simp [Nat.add_assoc]
    · rw [plS_bang hseg.2.1]
      simp [Nat.add_comm, Nat.add_left_comm]
    · rw [msk_app, msk_n (by decide)]
  · refine r_if_ne (pc := 11) (tgt := 16) dX4_readNot_11 (by decide) (fun h => absurd h (by decide)) (fun _ => ?_)
    refine r_iconst (pc := 14) (v := 0) dX4_readNot_14 (by decide) ?_
    refine r_iret (pc := 15) rfl rfl dX4_readNot_15 ?_
    exact pO_f (rest := (cF o (tlist tx p (tn - p))).2.1) (seg := []) (if_neg (by rw [hok]; decide)) hk2 hl2 rfl
end S3
