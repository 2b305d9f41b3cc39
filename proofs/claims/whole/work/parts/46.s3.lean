/-! ===== the class: its reading of the text ===== -/
section S3
/-- what a reading of a part leaves -/
def pO (c0 : va_E) (tx : Nat → Int32) (tn : Nat) (tl : List va_E) (res : Bool × List Int32 × List Int32) (lt : Int32) (Y X : List Int32) : aw_R → List va_E → Prop := fun r w' => (res.1 = true → sR c0 tx tn tl (.inl (some (.int 1))) (tn - res.2.1.length) (msk lt res.2.2) (Y ++ res.2.2.map stc) (X ++ plS res.2.2) r w') ∧ (res.1 = false → sX c0 tx tn tl (tn - res.2.1.length) r w')
theorem sR_of {c0 : va_E} {tx : Nat → Int32} {tn : Nat} {tl : List va_E} {r0 : aw_R} {p p' k l : Nat} {lt lt' : Int32} {Y X : List Int32} {st pn : Nat → Int32} (hY : arow st Y) (hX : arow pn X) (hp : p' = p) (hk : k = Y.length) (hl : l = X.length) (hlt : lt' = lt) : sR c0 tx tn tl r0 p lt Y X r0 (sW c0 tx tn p' k l lt' st pn tl) := by
  subst hp hk hl hlt
  exact ⟨rfl, _, _, rfl, hY, hX⟩
theorem pO_t {c0 : va_E} {tx : Nat → Int32} {tn : Nat} {tl : List va_E} {res : Bool × List Int32 × List Int32} {rest seg : List Int32} {p' k l : Nat} {lt lt' : Int32} {Y X : List Int32} {st pn : Nat → Int32} (h : res = (true, rest, seg)) (hY : arow st (Y ++ seg.map stc)) (hX : arow pn (X ++ plS seg)) (hp : p' = tn - rest.length) (hk : k = (Y ++ seg.map stc).length) (hl : l = (X ++ plS seg).length) (hlt : lt' = msk lt seg) : pO c0 tx tn tl res lt Y X (.inl (some (.int 1))) (sW c0 tx tn p' k l lt' st pn tl) := by
  subst h
  exact ⟨fun _ => sR_of hY hX hp hk hl hlt, fun z => (by cases z)⟩
theorem pO_f {c0 : va_E} {tx : Nat → Int32} {tn : Nat} {tl : List va_E} {res : Bool × List Int32 × List Int32} {rest seg : List Int32} {p' k l : Nat} {lt lt' : Int32} {Y X : List Int32} {st pn : Nat → Int32} (h : res = (false, rest, seg)) (hk : k ≤ 40) (hl : l ≤ 80) (hp : p' = tn - rest.length) : pO c0 tx tn tl res lt Y X (.inl (some (.int 0))) (sW c0 tx tn p' k l lt' st pn tl) := by
  subst h hp
  exact ⟨fun z => (by cases z), fun _ => ⟨rfl, k, l, lt', st, pn, hk, hl, rfl⟩⟩
section PK
variable {G : aw_G} {F : aw_F} {kc ks : Nat} {w : List va_E} {pc : Nat} {loc : List (Option Value)} {rest : List Value} {Q : aw_R → List va_E → Prop} {c0 : va_E} {tx : Nat → Int32} {tn : Nat} {tl : List va_E} {res : Bool × List Int32 × List Int32} {lt : Int32} {Y X : List Int32}
theorem aw_kO (h1 : res.1 = true → ∀ st pn : Nat → Int32, arow st (Y ++ res.2.2.map stc) → arow pn (X ++ plS res.2.2) → AW G F kc ks (sW c0 tx tn (tn - res.2.1.length) (Y ++ res.2.2.map stc).length (X ++ plS res.2.2).length (msk lt res.2.2) st pn tl) pc loc (.int 1 :: rest) Q) (h2 : res.1 = false → ∀ (k l : Nat) (lt : Int32) (st pn : Nat → Int32), k ≤ 40 → l ≤ 80 → AW G F kc ks (sW c0 tx tn (tn - res.2.1.length) k l lt st pn tl) pc loc (.int 0 :: rest) Q) : ∀ (r : Option Value) (w' : List va_E), pO c0 tx tn tl res lt Y X (.inl r) w' → w.length ≤ w'.length → AW G F kc ks w' pc loc (r.toList ++ rest) Q := by
  rintro r w' ⟨a, b⟩ -
  by_cases hr : res.1 = true
  · obtain ⟨e, st, pn, rfl, hs, hp⟩ := a hr
    cases e
    exact h1 hr st pn hs hp
  · obtain ⟨e, k, l, lt, st, pn, hk, hl, rfl⟩ := b ((Bool.not_eq_true _).mp hr)
    cases e
    exact h2 ((Bool.not_eq_true _).mp hr) k l lt st pn hk hl
theorem aw_tO : ∀ (E : String) (w' : List va_E), pO c0 tx tn tl res lt Y X (.inr E) w' → w.length ≤ w'.length → Q (.inr E) w' := by
  rintro E w' ⟨a, b⟩ -
  by_cases hr : res.1 = true
  · obtain ⟨e, -⟩ := a hr; cases e
  · obtain ⟨e, -⟩ := b ((Bool.not_eq_true _).mp hr); cases e
theorem aw_kR {p : Nat} (h1 : ∀ st pn : Nat → Int32, arow st Y → arow pn X → AW G F kc ks (sW c0 tx tn p Y.length X.length lt st pn tl) pc loc rest Q) : ∀ (r : Option Value) (w' : List va_E), sR c0 tx tn tl (.inl none) p lt Y X (.inl r) w' → w.length ≤ w'.length → AW G F kc ks w' pc loc (r.toList ++ rest) Q := by
  rintro r w' ⟨e, st, pn, rfl, hs, hp⟩ -
  cases e
  exact h1 st pn hs hp
theorem aw_tR {p : Nat} : ∀ (E : String) (w' : List va_E), sR c0 tx tn tl (.inl none) p lt Y X (.inr E) w' → w.length ≤ w'.length → Q (.inr E) w' := by
  rintro E w' ⟨e, -⟩ -
  cases e
end PK
def factC (G : aw_G) (c0 : va_E) (tx : Nat → Int32) (tn : Nat) (tl : List va_E) (o d : Nat) : Prop := ∀ (p : Nat) (lt : Int32) (Y X : List Int32) (st pn : Nat → Int32), p ≤ tn → Y.length ≤ p → X.length ≤ 2 * p → arow st Y → arow pn X → AM G (fX4_readFactor d) [.ref 1, .int (nI (6 - o))] (sW c0 tx tn p Y.length X.length lt st pn tl) (pO c0 tx tn tl (cF o (tlist tx p (tn - p))) lt Y X)
def partsC (G : aw_G) (c0 : va_E) (tx : Nat → Int32) (tn : Nat) (tl : List va_E) (f : List Int32 → Bool × List Int32 × List Int32) (lv op d : Nat) : Prop := ∀ (p : Nat) (lt : Int32) (Y X : List Int32) (st pn : Nat → Int32), p ≤ tn → Y.length ≤ p → X.length ≤ 2 * p → arow st Y → arow pn X → AM G (fX4_readParts d) [.ref 1, .int (nI lv), .int (nI op)] (sW c0 tx tn p Y.length X.length lt st pn tl) (pO c0 tx tn tl (f (tlist tx p (tn - p))) lt Y X)
set_option maxRecDepth 100000 in
set_option maxHeartbeats 4000000 in
theorem ac_readNot {G : aw_G} {c0 : va_E} {tx : Nat → Int32} {tn : Nat} {tl : List va_E} (htn : tn ≤ 40) (hch : chOK tx tn) {o d op : Nat} (hop : op = 6 - o) (hd : 8 * o + 2 ≤ d) (hF : factC G c0 tx tn tl o (8 * o)) (p : Nat) (lt : Int32) (Y X : List Int32) (st pn : Nat → Int32) (hp : p ≤ tn) (hYp : Y.length + 1 ≤ p) (hXp : X.length + 2 ≤ 2 * p) (hY : arow st Y) (hX : arow pn X) : AM G (fX4_readNot d) [.ref 1, .int (nI op)] (sW c0 tx tn p Y.length X.length lt st pn tl) (pO c0 tx tn tl (cNot (cF o (tlist tx p (tn - p)))) lt Y X) := by
  subst hop
  have hXl1 : X.length + 1 = (X ++ [33]).length := by simp
  refine AM_of (show plainName RX4 = true by decide) rfl rfl (Nat.le_of_ble_eq_true rfl) ?_
  show AW G (fX4_readNot d) 0 0 (sW c0 tx tn p Y.length X.length lt st pn tl) 0 [some (.ref 1), some (.int (nI (6 - o)))] [] _
  refine r_aload_n (pc := 0) dX4_readNot_0 rfl rfl ?_
  refine r_bipush (pc := 1) (v := 33) dX4_readNot_1 (by decide) ?_
  refine s_X4_69 (pc := 3) (kc' := 0) (ks' := 0) rfl rfl (ac_writePlain (by omega) _) rfl (by simp only [aw_fr, aw_lo, fX4_readParts, fX4_readFactor, fX4_readNot, fX4_readBracket, fX4_next, fX4_isDigit, fX4_levelOf, fX4_addStep, fX4_writePlain, fX4_openPlain, fX4_readLetter, fX4_readNumber, fX4_firstError]; omega) (by simp only [aw_fr, aw_lo, fX4_readParts, fX4_readFactor, fX4_readNot, fX4_readBracket, fX4_next, fX4_isDigit, fX4_levelOf, fX4_addStep, fX4_writePlain, fX4_openPlain, fX4_readLetter, fX4_readNumber, fX4_firstError]; omega) (Nat.le_of_ble_eq_true rfl) (Nat.le_of_ble_eq_true rfl) (by exact (Nat.le_of_ble_eq_true rfl)) rfl (List.forall_mem_cons.mpr ⟨rfl, (List.forall_mem_cons.mpr ⟨rfl, fun _ h => nomatch h⟩)⟩) rfl dX4_readNot_3 aw_kt (aw_kv ?_)
  refine r_aload_n (pc := 6) dX4_readNot_6 rfl rfl ?_
  refine r_iload_n (pc := 7) dX4_readNot_7 rfl rfl ?_
  rw [hXl1]
  refine s_X4_53 (pc := 8) (kc' := 0) (ks' := 0) rfl rfl (hF p lt Y (X ++ [33]) st (upd pn X.length 33) hp (by omega) (by simp; omega) hY (arow_up hX rfl)) rfl (by simp only [aw_fr, aw_lo, fX4_readParts, fX4_readFactor, fX4_readNot, fX4_readBracket, fX4_next, fX4_isDigit, fX4_levelOf, fX4_addStep, fX4_writePlain, fX4_openPlain, fX4_readLetter, fX4_readNumber, fX4_firstError]; omega) (by simp only [aw_fr, aw_lo, fX4_readParts, fX4_readFactor, fX4_readNot, fX4_readBracket, fX4_next, fX4_isDigit, fX4_levelOf, fX4_addStep, fX4_writePlain, fX4_openPlain, fX4_readLetter, fX4_readNumber, fX4_firstError]; omega) (Nat.le_of_ble_eq_true rfl) (Nat.le_of_ble_eq_true rfl) (by exact (Nat.le_of_ble_eq_true rfl)) rfl (List.forall_mem_cons.mpr ⟨rfl, (List.forall_mem_cons.mpr ⟨rfl, fun _ h => nomatch h⟩)⟩) rfl dX4_readNot_8 aw_tO (aw_kO (fun hok st2 pn2 hY2 hX2 => ?_) (fun hok k2 l2 lt2 st2 pn2 hk2 hl2 => ?_))
  · refine r_if_ne (pc := 11) (tgt := 16) dX4_readNot_11 (by decide) (fun _ => ?_) (fun h => absurd h (by decide))
    obtain ⟨n, hn, -, hb⟩ := cF_ok o (tlist tx p (tn - p)) (by rw [tlist_len]; omega)
    have hseg := (hb hok).1
    rw [tlist_len] at hn
    have hs1 := hseg.2.2.2.1
    have hs2 := hseg.2.2.2.2
    have hYl2 : (Y ++ (cF o (tlist tx p (tn - p))).2.2.map stc).length < 40 := by simp; omega
    refine r_aload_n (pc := 16) dX4_readNot_16 rfl rfl ?_
    refine r_bipush (pc := 17) (v := -33) dX4_readNot_17 (by decide) ?_
    refine s_X4_73 (pc := 19) (kc' := 0) (ks' := 0) rfl rfl (ac_addStep hYl2 _) rfl (by simp only [aw_fr, aw_lo, fX4_readParts, fX4_readFactor, fX4_readNot, fX4_readBracket, fX4_next, fX4_isDigit, fX4_levelOf, fX4_addStep, fX4_writePlain, fX4_openPlain, fX4_readLetter, fX4_readNumber, fX4_firstError]; omega) (by simp only [aw_fr, aw_lo, fX4_readParts, fX4_readFactor, fX4_readNot, fX4_readBracket, fX4_next, fX4_isDigit, fX4_levelOf, fX4_addStep, fX4_writePlain, fX4_openPlain, fX4_readLetter, fX4_readNumber, fX4_firstError]; omega) (Nat.le_of_ble_eq_true rfl) (Nat.le_of_ble_eq_true rfl) (by exact (Nat.le_of_ble_eq_true rfl)) rfl (List.forall_mem_cons.mpr ⟨rfl, (List.forall_mem_cons.mpr ⟨rfl, fun _ h => nomatch h⟩)⟩) rfl dX4_readNot_19 aw_kt (aw_kv ?_)
    refine r_iconst (pc := 22) (v := 1) dX4_readNot_22 (by decide) ?_
    refine r_iret (pc := 23) rfl rfl dX4_readNot_23 ?_
    refine pO_t (rest := (cF o (tlist tx p (tn - p))).2.1) (seg := (cF o (tlist tx p (tn - p))).2.2 ++ [2033]) (if_pos hok) ?_ ?_ rfl ?_ ?_ ?_
    · rw [List.map_append, ← List.append_assoc]
      exact arow_up hY2 rfl
    · rw [plS_bang hseg.2.1]
      simpa using hX2
    · simp [Nat.add_assoc]
    · rw [plS_bang hseg.2.1]
      simp [Nat.add_comm, Nat.add_left_comm]
    · rw [msk_app, msk_n (by decide)]
  · refine r_if_ne (pc := 11) (tgt := 16) dX4_readNot_11 (by decide) (fun h => absurd h (by decide)) (fun _ => ?_)
    refine r_iconst (pc := 14) (v := 0) dX4_readNot_14 (by decide) ?_
    refine r_iret (pc := 15) rfl rfl dX4_readNot_15 ?_
    exact pO_f (rest := (cF o (tlist tx p (tn - p))).2.1) (seg := []) (if_neg (by rw [hok]; decide)) hk2 hl2 rfl
theorem pO_tt {c0 : va_E} {tx : Nat → Int32} {tn : Nat} {tl : List va_E} {res : Bool × List Int32 × List Int32} {lt : Int32} {Y X : List Int32} {st pn : Nat → Int32} (h : res.1 = true) (hY : arow st (Y ++ res.2.2.map stc)) (hX : arow pn (X ++ plS res.2.2)) : pO c0 tx tn tl res lt Y X (.inl (some (.int 1))) (sW c0 tx tn (tn - res.2.1.length) (Y ++ res.2.2.map stc).length (X ++ plS res.2.2).length (msk lt res.2.2) st pn tl) := ⟨fun _ => sR_of hY hX rfl rfl rfl rfl, fun z => (by rw [h] at z; cases z)⟩
theorem pO_ff {c0 : va_E} {tx : Nat → Int32} {tn : Nat} {tl : List va_E} {res : Bool × List Int32 × List Int32} {lt lt' : Int32} {Y X : List Int32} {k l : Nat} {st pn : Nat → Int32} (h : res.1 = false) (hk : k ≤ 40) (hl : l ≤ 80) : pO c0 tx tn tl res lt Y X (.inl (some (.int 0))) (sW c0 tx tn (tn - res.2.1.length) k l lt' st pn tl) := ⟨fun z => (by rw [h] at z; cases z), fun _ => ⟨rfl, k, l, lt', st, pn, hk, hl, rfl⟩⟩
theorem hd_rest {tx : Nat → Int32} {p tn : Nat} {rest : List Int32} (e : rest = tlist tx p (tn - p)) : hd tx p tn = rest.headD 0 := by
  by_cases h : p < tn
  · rw [e, tl_cons h, hd_lt h]; rfl
  · rw [e, tl_nil (by omega), hd_ge h]; rfl
theorem cF_dig {o : Nat} {c : Int32} {t : List Int32} (h : isDig c = true) : cF o (c :: t) = (true, (cN 2 (c - 48) t).2, [(cN 2 (c - 48) t).1]) := by cases o <;> exact cFs_dig h
theorem cF_let {o : Nat} {c : Int32} {t : List Int32} (h : ¬ isDig c = true) (h2 : isLet c = true) : cF o (c :: t) = (true, t, [1000 + c - 97]) := by cases o <;> exact cFs_let h h2
theorem cF_33 {o : Nat} (t : List Int32) : cF (o + 1) (33 :: t) = cNot (cF o t) := (cFs_some (by decide) (by decide)).trans (if_pos rfl)
theorem cF_40 {o : Nat} (t : List Int32) : cF (o + 1) (40 :: t) = cBr (cL0 (cF o) t) := (cFs_some (by decide) (by decide)).trans ((if_neg (by decide)).trans (if_pos rfl))
theorem cF_no {o : Nat} {tx : Nat → Int32} {p tn : Nat} (h : ¬ isDig (hd tx p tn) = true) (h2 : ¬ isLet (hd tx p tn) = true) (h3 : o = 0 ∨ (hd tx p tn ≠ 40 ∧ hd tx p tn ≠ 33)) : cF o (tlist tx p (tn - p)) = (false, tlist tx p (tn - p), []) := by
  by_cases hp : p < tn
  · rw [hd_lt hp] at h h2 h3
    rw [tl_cons hp]
    cases o with
    | zero => exact cFs_none h h2
    | succ o =>
      rcases h3 with z | z
      · cases z
      · exact (cFs_some h h2).trans ((if_neg z.2).trans (if_neg z.1))
  · rw [tl_nil (by omega)]
    cases o <;> exact cFs_nil _
theorem cbr_t {x : Bool × List Int32 × List Int32} {t : List Int32} (h : x.1 = true) (h2 : x.2.1 = 41 :: t) : cBr x = (true, t, x.2.2) := by
  unfold cBr
  rw [if_pos ⟨h, by rw [h2]; rfl⟩, h2]
  rfl
theorem cbr_f {x : Bool × List Int32 × List Int32} (h : ¬ (x.1 = true ∧ x.2.1.headD 0 = 41)) : cBr x = (false, x.2.1, []) := by
  unfold cBr
  rw [if_neg]
  intro z
  refine h ⟨z.1, ?_⟩
  cases hx : x.2.1 with
  | nil => rw [hx] at z; exact absurd z.2 (by simp)
  | cons c t => rw [hx] at z; exact Option.some.inj z.2
set_option maxRecDepth 100000 in
set_option maxHeartbeats 4000000 in
theorem ac_readBracket {G : aw_G} {c0 : va_E} {tx : Nat → Int32} {tn : Nat} {tl : List va_E} (htn : tn ≤ 40) (hch : chOK tx tn) {o d d2 op : Nat} (hd2 : d2 + 1 ≤ d) (hF : partsC G c0 tx tn tl (cL0 (cF o)) 0 op d2) (p : Nat) (lt : Int32) (Y X : List Int32) (st pn : Nat → Int32) (hp : p ≤ tn) (hYp : Y.length ≤ p) (hXp : X.length ≤ 2 * p) (hY : arow st Y) (hX : arow pn X) : AM G (fX4_readBracket d) [.ref 1, .int (nI op)] (sW c0 tx tn p Y.length X.length lt st pn tl) (pO c0 tx tn tl (cBr (cL0 (cF o) (tlist tx p (tn - p)))) lt Y X) := by
  refine AM_of (show plainName RX4 = true by decide) rfl rfl (Nat.le_of_ble_eq_true rfl) ?_
  show AW G (fX4_readBracket d) 0 0 (sW c0 tx tn p Y.length X.length lt st pn tl) 0 [some (.ref 1), some (.int (nI op))] [] _
  refine r_aload_n (pc := 0) dX4_readBracket_0 rfl rfl ?_
  refine r_iconst (pc := 1) (v := 0) dX4_readBracket_1 (by decide) ?_
  refine r_iload_n (pc := 2) dX4_readBracket_2 rfl rfl ?_
  refine s_X4_38 (pc := 3) (kc' := 0) (ks' := 0) rfl rfl (hF p lt Y X st pn hp (by omega) (by omega) hY hX) rfl (by simp only [aw_fr, aw_lo, fX4_readParts, fX4_readFactor, fX4_readNot, fX4_readBracket, fX4_next, fX4_isDigit, fX4_levelOf, fX4_addStep, fX4_writePlain, fX4_openPlain, fX4_readLetter, fX4_readNumber, fX4_firstError]; omega) (by simp only [aw_fr, aw_lo, fX4_readParts, fX4_readFactor, fX4_readNot, fX4_readBracket, fX4_next, fX4_isDigit, fX4_levelOf, fX4_addStep, fX4_writePlain, fX4_openPlain, fX4_readLetter, fX4_readNumber, fX4_firstError]; omega) (Nat.le_of_ble_eq_true rfl) (Nat.le_of_ble_eq_true rfl) (by exact (Nat.le_of_ble_eq_true rfl)) rfl (List.forall_mem_cons.mpr ⟨rfl, (List.forall_mem_cons.mpr ⟨rfl, (List.forall_mem_cons.mpr ⟨rfl, fun _ h => nomatch h⟩)⟩)⟩) rfl dX4_readBracket_3 aw_tO (aw_kO (fun hok st2 pn2 hY2 hX2 => ?_) (fun hok k2 l2 lt2 st2 pn2 hk2 hl2 => ?_))
  · refine r_if_eq (pc := 6) (tgt := 18) dX4_readBracket_6 (by decide) (fun h => absurd h (by decide)) (fun _ => ?_)
    obtain ⟨a, ha⟩ := l0_suf (cF_suf o) (tlist tx p (tn - p))
    obtain ⟨e1, e2⟩ := tl_suf a p hp ha
    obtain ⟨n, hn, -, hb⟩ := l0_ok (fOK_of (cF_ok o)) (tlist tx p (tn - p)) (by rw [tlist_len]; omega)
    have hseg := (hb hok).1
    rw [tlist_len] at hn
    have hs1 := hseg.2.2.2.1
    have hs2 := hseg.2.2.2.2
    refine r_aload_n (pc := 9) dX4_readBracket_9 rfl rfl ?_
    refine s_X4_57 (pc := 10) (kc' := 0) (ks' := 0) rfl rfl (ac_next (by omega) htn hch) rfl (by simp only [aw_fr, aw_lo, fX4_readParts, fX4_readFactor, fX4_readNot, fX4_readBracket, fX4_next, fX4_isDigit, fX4_levelOf, fX4_addStep, fX4_writePlain, fX4_openPlain, fX4_readLetter, fX4_readNumber, fX4_firstError]; omega) (by simp only [aw_fr, aw_lo, fX4_readParts, fX4_readFactor, fX4_readNot, fX4_readBracket, fX4_next, fX4_isDigit, fX4_levelOf, fX4_addStep, fX4_writePlain, fX4_openPlain, fX4_readLetter, fX4_readNumber, fX4_firstError]; omega) (Nat.le_of_ble_eq_true rfl) (Nat.le_of_ble_eq_true rfl) (by exact (Nat.le_of_ble_eq_true rfl)) rfl (List.forall_mem_cons.mpr ⟨rfl, fun _ h => nomatch h⟩) rfl dX4_readBracket_10 aw_kt (aw_kq ?_)
    refine r_bipush (pc := 13) (v := 41) dX4_readBracket_13 (by decide) ?_
    refine r_icmp_eq (pc := 15) (tgt := 20) dX4_readBracket_15 (by decide) (fun h15 => ?_) (fun h15 => ?_)
    · refine r_aload_n (pc := 20) dX4_readBracket_20 rfl rfl ?_
      refine r_dup (pc := 21) dX4_readBracket_21 rfl ?_
      refine sg_19 (pc := 22) rfl dX4_readBracket_22 ?_
      refine r_iconst (pc := 25) (v := 1) dX4_readBracket_25 (by decide) ?_
      refine r_iadd (pc := 26) dX4_readBracket_26 ?_
      rw [nI_1]
      refine sp_19 (pc := 27) rfl dX4_readBracket_27 ?_
      refine r_iconst (pc := 30) (v := 1) dX4_readBracket_30 (by decide) ?_
      refine r_iret (pc := 31) rfl rfl dX4_readBracket_31 ?_
      obtain ⟨c, t, hct⟩ : ∃ c t, (cL0 (cF o) (tlist tx p (tn - p))).2.1 = c :: t := by
        cases hz : (cL0 (cF o) (tlist tx p (tn - p))).2.1 with
        | nil => rw [hd_rest e1, hz] at h15; exact absurd h15 (by decide)
        | cons c t => exact ⟨c, t, rfl⟩
      have hc41 : c = 41 := by rw [hd_rest e1, hct] at h15; exact h15
      subst hc41
      have hlen : (cL0 (cF o) (tlist tx p (tn - p))).2.1.length = t.length + 1 := by rw [hct]; rfl
      exact pO_t (rest := t) (seg := (cL0 (cF o) (tlist tx p (tn - p))).2.2) (cbr_t hok hct) hY2 hX2 (by omega) rfl rfl rfl
    · refine r_iconst (pc := 18) (v := 0) dX4_readBracket_18 (by decide) ?_
      refine r_iret (pc := 19) rfl rfl dX4_readBracket_19 ?_
      exact pO_f (rest := (cL0 (cF o) (tlist tx p (tn - p))).2.1) (seg := []) (cbr_f (fun z => h15 (by rw [hd_rest e1]; exact z.2))) (by simp; omega) (by simp; omega) rfl
  · refine r_if_eq (pc := 6) (tgt := 18) dX4_readBracket_6 (by decide) (fun _ => ?_) (fun h => absurd h (by decide))
    refine r_iconst (pc := 18) (v := 0) dX4_readBracket_18 (by decide) ?_
    refine r_iret (pc := 19) rfl rfl dX4_readBracket_19 ?_
    exact pO_f (rest := (cL0 (cF o) (tlist tx p (tn - p))).2.1) (seg := []) (cbr_f (fun z => by rw [hok] at z; exact absurd z.1 (by decide))) hk2 hl2 rfl
set_option maxRecDepth 100000 in
set_option maxHeartbeats 4000000 in
theorem ac_readFactor {G : aw_G} {c0 : va_E} {tx : Nat → Int32} {tn : Nat} {tl : List va_E} (htn : tn ≤ 40) (hch : chOK tx tn) {o : Nat} (ho : o ≤ 6) (hrec : o ≠ 0 → ∃ o', o = o' + 1 ∧ factC G c0 tx tn tl o' (8 * o') ∧ partsC G c0 tx tn tl (cL0 (cF o')) 0 (6 - o') (8 * o' + 7)) : factC G c0 tx tn tl o (8 * o) := by
  intro p lt Y X st pn hp hYp hXp hY hX
  refine AM_of (show plainName RX4 = true by decide) rfl rfl (Nat.le_of_ble_eq_true rfl) ?_
  show AW G (fX4_readFactor (8 * o)) 0 0 (sW c0 tx tn p Y.length X.length lt st pn tl) 0 [some (.ref 1), some (.int (nI (6 - o))), none] [] _
  refine r_aload_n (pc := 0) dX4_readFactor_0 rfl rfl ?_
  refine s_X4_57 (pc := 1) (kc' := 0) (ks' := 0) rfl rfl (ac_next (by omega) htn hch) rfl (by simp only [aw_fr, aw_lo, fX4_readParts, fX4_readFactor, fX4_readNot, fX4_readBracket, fX4_next, fX4_isDigit, fX4_levelOf, fX4_addStep, fX4_writePlain, fX4_openPlain, fX4_readLetter, fX4_readNumber, fX4_firstError]; omega) (by simp only [aw_fr, aw_lo, fX4_readParts, fX4_readFactor, fX4_readNot, fX4_readBracket, fX4_next, fX4_isDigit, fX4_levelOf, fX4_addStep, fX4_writePlain, fX4_openPlain, fX4_readLetter, fX4_readNumber, fX4_firstError]; omega) (Nat.le_of_ble_eq_true rfl) (Nat.le_of_ble_eq_true rfl) (by exact (Nat.le_of_ble_eq_true rfl)) rfl (List.forall_mem_cons.mpr ⟨rfl, fun _ h => nomatch h⟩) rfl dX4_readFactor_1 aw_kt (aw_kq ?_)
  refine r_istore_n (pc := 4) dX4_readFactor_4 rfl (Nat.le_of_ble_eq_true rfl) rfl ?_
  refine r_iload_n (pc := 5) dX4_readFactor_5 rfl rfl ?_
  refine s_X4_76 (pc := 6) (kc' := 0) (ks' := 0) rfl rfl (ac_isDigit _)  (by simp only [aw_fr, aw_lo, fX4_readParts, fX4_readFactor, fX4_readNot, fX4_readBracket, fX4_next, fX4_isDigit, fX4_levelOf, fX4_addStep, fX4_writePlain, fX4_openPlain, fX4_readLetter, fX4_readNumber, fX4_firstError]; omega) (by simp only [aw_fr, aw_lo, fX4_readParts, fX4_readFactor, fX4_readNot, fX4_readBracket, fX4_next, fX4_isDigit, fX4_levelOf, fX4_addStep, fX4_writePlain, fX4_openPlain, fX4_readLetter, fX4_readNumber, fX4_firstError]; omega) (Nat.le_of_ble_eq_true rfl) (Nat.le_of_ble_eq_true rfl) (by exact (Nat.le_of_ble_eq_true rfl)) rfl (List.forall_mem_cons.mpr ⟨rfl, fun _ h => nomatch h⟩) rfl dX4_readFactor_6 aw_kt (aw_kq ?_)
  refine r_if_eq (pc := 9) (tgt := 18) dX4_readFactor_9 (by decide) (fun h9 => ?_) (fun h9 => ?_)
  · refine r_iload_n (pc := 18) dX4_readFactor_18 rfl rfl ?_
    refine r_bipush (pc := 19) (v := 97) dX4_readFactor_19 (by decide) ?_
    refine r_icmp_lt (pc := 21) (tgt := 37) dX4_readFactor_21 (by decide) (fun h21 => ?_) (fun h21 => ?_)
    · refine r_iload_n (pc := 37) dX4_readFactor_37 rfl rfl ?_
      refine r_bipush (pc := 38) (v := 40) dX4_readFactor_38 (by decide) ?_
      refine r_icmp_eq (pc := 40) (tgt := 49) dX4_readFactor_40 (by decide) (fun h40 => ?_) (fun h40 => ?_)
      · refine r_iload_n (pc := 49) dX4_readFactor_49 rfl rfl ?_
        refine r_bipush (pc := 50) (v := 6) dX4_readFactor_50 (by decide) ?_
        refine r_icmp_lt (pc := 52) (tgt := 57) dX4_readFactor_52 (by decide) (fun h52 => ?_) (fun h52 => ?_)
        · have ho0 : o ≠ 0 := fun z => by rw [z] at h52; exact absurd h52 (by decide)
          have hch9 : hd tx p tn = 40 := h40
          have hpt : p < tn := by
            refine Classical.byContradiction (fun z => ?_)
            rw [hd_ge z] at hch9
            exact absurd hch9 (by decide)
          have htx : tx p = 40 := (hd_lt hpt).symm.trans hch9
          obtain ⟨o', rfl, hF, hPc⟩ := hrec ho0
          have ho6 : o' + 1 ≤ 6 := ho
          rw [tl_cons hpt, htx, cF_40]
          refine r_aload_n (pc := 57) dX4_readFactor_57 rfl rfl ?_
          refine r_dup (pc := 58) dX4_readFactor_58 rfl ?_
          refine sg_19 (pc := 59) rfl dX4_readFactor_59 ?_
          refine r_iconst (pc := 62) (v := 1) dX4_readFactor_62 (by decide) ?_
          refine r_iadd (pc := 63) dX4_readFactor_63 ?_
          rw [nI_1]
          refine sp_19 (pc := 64) rfl dX4_readFactor_64 ?_
          refine r_iload_n (pc := 67) dX4_readFactor_67 rfl rfl ?_
          refine r_bipush (pc := 68) (v := 33) dX4_readFactor_68 (by decide) ?_
          refine r_icmp_ne (pc := 70) (tgt := 83) dX4_readFactor_70 (by decide) (fun h70 => ?_) (fun h => absurd (hch9.symm.trans h) (by decide))
          refine r_aload_n (pc := 83) dX4_readFactor_83 rfl rfl ?_
          refine r_iload_n (pc := 84) dX4_readFactor_84 rfl rfl ?_
          refine r_iconst (pc := 85) (v := 1) dX4_readFactor_85 (by decide) ?_
          refine r_iadd (pc := 86) dX4_readFactor_86 ?_
          rw [nI_1, show 6 - (o' + 1) + 1 = 6 - o' by omega]
          refine s_X4_89 (pc := 87) (kc' := 0) (ks' := 0) rfl rfl (ac_readBracket htn hch (o := o') (d := 8 * (o' + 1)) (d2 := 8 * o' + 7) (by omega) hPc (p + 1) lt Y X st pn (by omega) (by omega) (by omega) hY hX) rfl (by simp only [aw_fr, aw_lo, fX4_readParts, fX4_readFactor, fX4_readNot, fX4_readBracket, fX4_next, fX4_isDigit, fX4_levelOf, fX4_addStep, fX4_writePlain, fX4_openPlain, fX4_readLetter, fX4_readNumber, fX4_firstError]; omega) (by simp only [aw_fr, aw_lo, fX4_readParts, fX4_readFactor, fX4_readNot, fX4_readBracket, fX4_next, fX4_isDigit, fX4_levelOf, fX4_addStep, fX4_writePlain, fX4_openPlain, fX4_readLetter, fX4_readNumber, fX4_firstError]; omega) (Nat.le_of_ble_eq_true rfl) (Nat.le_of_ble_eq_true rfl) (by exact (Nat.le_of_ble_eq_true rfl)) rfl (List.forall_mem_cons.mpr ⟨rfl, (List.forall_mem_cons.mpr ⟨rfl, fun _ h => nomatch h⟩)⟩) rfl dX4_readFactor_87 aw_tO (aw_kO (fun hok st2 pn2 hY2 hX2 => ?_) (fun hok k2 l2 lt2 st2 pn2 hk2 hl2 => ?_))
          · refine r_iret (pc := 90) rfl rfl dX4_readFactor_90 ?_
            exact pO_tt hok hY2 hX2
          · refine r_iret (pc := 90) rfl rfl dX4_readFactor_90 ?_
            exact pO_ff hok hk2 hl2
        · have ho0 : o = 0 := by
            have : ¬ 6 - o < 6 := fun z => h52 (nI_lt (a := 6 - o) (b := 6) z (by decide))
            omega
          refine r_iconst (pc := 55) (v := 0) dX4_readFactor_55 (by decide) ?_
          refine r_iret (pc := 56) rfl rfl dX4_readFactor_56 ?_
          exact pO_f (rest := (tlist tx p (tn - p))) (seg := []) (cF_no (show ¬ isDig (hd tx p tn) = true from by rw [bi_eq.mp h9]; decide) (show ¬ isLet (hd tx p tn) = true from fun z => by have := of_decide_eq_true z; exact absurd this.1 (Int32.not_le.mpr h21)) (Or.inl ho0)) (by omega) (by omega) (by rw [tlist_len]; omega)
      · refine r_iload_n (pc := 43) dX4_readFactor_43 rfl rfl ?_
        refine r_bipush (pc := 44) (v := 33) dX4_readFactor_44 (by decide) ?_
        refine r_icmp_ne (pc := 46) (tgt := 55) dX4_readFactor_46 (by decide) (fun h46 => ?_) (fun h46 => ?_)
        · refine r_iconst (pc := 55) (v := 0) dX4_readFactor_55 (by decide) ?_
          refine r_iret (pc := 56) rfl rfl dX4_readFactor_56 ?_
          exact pO_f (rest := (tlist tx p (tn - p))) (seg := []) (cF_no (show ¬ isDig (hd tx p tn) = true from by rw [bi_eq.mp h9]; decide) (show ¬ isLet (hd tx p tn) = true from fun z => by have := of_decide_eq_true z; exact absurd this.1 (Int32.not_le.mpr h21)) (Or.inr ⟨h40, h46⟩)) (by omega) (by omega) (by rw [tlist_len]; omega)
        · refine r_iload_n (pc := 49) dX4_readFactor_49 rfl rfl ?_
          refine r_bipush (pc := 50) (v := 6) dX4_readFactor_50 (by decide) ?_
          refine r_icmp_lt (pc := 52) (tgt := 57) dX4_readFactor_52 (by decide) (fun h52 => ?_) (fun h52 => ?_)
          · have ho0 : o ≠ 0 := fun z => by rw [z] at h52; exact absurd h52 (by decide)
            have hch9 : hd tx p tn = 33 := h46
            have hpt : p < tn := by
              refine Classical.byContradiction (fun z => ?_)
              rw [hd_ge z] at hch9
              exact absurd hch9 (by decide)
            have htx : tx p = 33 := (hd_lt hpt).symm.trans hch9
            obtain ⟨o', rfl, hF, hPc⟩ := hrec ho0
            have ho6 : o' + 1 ≤ 6 := ho
            rw [tl_cons hpt, htx, cF_33]
            refine r_aload_n (pc := 57) dX4_readFactor_57 rfl rfl ?_
            refine r_dup (pc := 58) dX4_readFactor_58 rfl ?_
            refine sg_19 (pc := 59) rfl dX4_readFactor_59 ?_
            refine r_iconst (pc := 62) (v := 1) dX4_readFactor_62 (by decide) ?_
            refine r_iadd (pc := 63) dX4_readFactor_63 ?_
            rw [nI_1]
            refine sp_19 (pc := 64) rfl dX4_readFactor_64 ?_
            refine r_iload_n (pc := 67) dX4_readFactor_67 rfl rfl ?_
            refine r_bipush (pc := 68) (v := 33) dX4_readFactor_68 (by decide) ?_
            refine r_icmp_ne (pc := 70) (tgt := 83) dX4_readFactor_70 (by decide) (fun h => absurd hch9 h) (fun h70 => ?_)
            refine r_aload_n (pc := 73) dX4_readFactor_73 rfl rfl ?_
            refine r_iload_n (pc := 74) dX4_readFactor_74 rfl rfl ?_
            refine r_iconst (pc := 75) (v := 1) dX4_readFactor_75 (by decide) ?_
            refine r_iadd (pc := 76) dX4_readFactor_76 ?_
            rw [nI_1, show 6 - (o' + 1) + 1 = 6 - o' by omega]
            refine s_X4_86 (pc := 77) (kc' := 0) (ks' := 0) rfl rfl (ac_readNot htn hch (o := o') rfl (d := 8 * (o' + 1)) (by omega) hF (p + 1) lt Y X st pn (by omega) (by omega) (by omega) hY hX) rfl (by simp only [aw_fr, aw_lo, fX4_readParts, fX4_readFactor, fX4_readNot, fX4_readBracket, fX4_next, fX4_isDigit, fX4_levelOf, fX4_addStep, fX4_writePlain, fX4_openPlain, fX4_readLetter, fX4_readNumber, fX4_firstError]; omega) (by simp only [aw_fr, aw_lo, fX4_readParts, fX4_readFactor, fX4_readNot, fX4_readBracket, fX4_next, fX4_isDigit, fX4_levelOf, fX4_addStep, fX4_writePlain, fX4_openPlain, fX4_readLetter, fX4_readNumber, fX4_firstError]; omega) (Nat.le_of_ble_eq_true rfl) (Nat.le_of_ble_eq_true rfl) (by exact (Nat.le_of_ble_eq_true rfl)) rfl (List.forall_mem_cons.mpr ⟨rfl, (List.forall_mem_cons.mpr ⟨rfl, fun _ h => nomatch h⟩)⟩) rfl dX4_readFactor_77 aw_tO (aw_kO (fun hok st2 pn2 hY2 hX2 => ?_) (fun hok k2 l2 lt2 st2 pn2 hk2 hl2 => ?_))
            · refine r_goto (pc := 80) (tgt := 90) dX4_readFactor_80 (by decide) ?_
              refine r_iret (pc := 90) rfl rfl dX4_readFactor_90 ?_
              exact pO_tt hok hY2 hX2
            · refine r_goto (pc := 80) (tgt := 90) dX4_readFactor_80 (by decide) ?_
              refine r_iret (pc := 90) rfl rfl dX4_readFactor_90 ?_
              exact pO_ff hok hk2 hl2
          · have ho0 : o = 0 := by
              have : ¬ 6 - o < 6 := fun z => h52 (nI_lt (a := 6 - o) (b := 6) z (by decide))
              omega
            refine r_iconst (pc := 55) (v := 0) dX4_readFactor_55 (by decide) ?_
            refine r_iret (pc := 56) rfl rfl dX4_readFactor_56 ?_
            exact pO_f (rest := (tlist tx p (tn - p))) (seg := []) (cF_no (show ¬ isDig (hd tx p tn) = true from by rw [bi_eq.mp h9]; decide) (show ¬ isLet (hd tx p tn) = true from fun z => by have := of_decide_eq_true z; exact absurd this.1 (Int32.not_le.mpr h21)) (Or.inl ho0)) (by omega) (by omega) (by rw [tlist_len]; omega)
    · refine r_iload_n (pc := 24) dX4_readFactor_24 rfl rfl ?_
      refine r_bipush (pc := 25) (v := 102) dX4_readFactor_25 (by decide) ?_
      refine r_icmp_gt (pc := 27) (tgt := 37) dX4_readFactor_27 (by decide) (fun h27 => ?_) (fun h27 => ?_)
      · refine r_iload_n (pc := 37) dX4_readFactor_37 rfl rfl ?_
        refine r_bipush (pc := 38) (v := 40) dX4_readFactor_38 (by decide) ?_
        refine r_icmp_eq (pc := 40) (tgt := 49) dX4_readFactor_40 (by decide) (fun h40 => ?_) (fun h40 => ?_)
        · refine r_iload_n (pc := 49) dX4_readFactor_49 rfl rfl ?_
          refine r_bipush (pc := 50) (v := 6) dX4_readFactor_50 (by decide) ?_
          refine r_icmp_lt (pc := 52) (tgt := 57) dX4_readFactor_52 (by decide) (fun h52 => ?_) (fun h52 => ?_)
          · have ho0 : o ≠ 0 := fun z => by rw [z] at h52; exact absurd h52 (by decide)
            have hch9 : hd tx p tn = 40 := h40
            have hpt : p < tn := by
              refine Classical.byContradiction (fun z => ?_)
              rw [hd_ge z] at hch9
              exact absurd hch9 (by decide)
            have htx : tx p = 40 := (hd_lt hpt).symm.trans hch9
            obtain ⟨o', rfl, hF, hPc⟩ := hrec ho0
            have ho6 : o' + 1 ≤ 6 := ho
            rw [tl_cons hpt, htx, cF_40]
            refine r_aload_n (pc := 57) dX4_readFactor_57 rfl rfl ?_
            refine r_dup (pc := 58) dX4_readFactor_58 rfl ?_
            refine sg_19 (pc := 59) rfl dX4_readFactor_59 ?_
            refine r_iconst (pc := 62) (v := 1) dX4_readFactor_62 (by decide) ?_
            refine r_iadd (pc := 63) dX4_readFactor_63 ?_
            rw [nI_1]
            refine sp_19 (pc := 64) rfl dX4_readFactor_64 ?_
            refine r_iload_n (pc := 67) dX4_readFactor_67 rfl rfl ?_
            refine r_bipush (pc := 68) (v := 33) dX4_readFactor_68 (by decide) ?_
            refine r_icmp_ne (pc := 70) (tgt := 83) dX4_readFactor_70 (by decide) (fun h70 => ?_) (fun h => absurd (hch9.symm.trans h) (by decide))
            refine r_aload_n (pc := 83) dX4_readFactor_83 rfl rfl ?_
            refine r_iload_n (pc := 84) dX4_readFactor_84 rfl rfl ?_
            refine r_iconst (pc := 85) (v := 1) dX4_readFactor_85 (by decide) ?_
            refine r_iadd (pc := 86) dX4_readFactor_86 ?_
            rw [nI_1, show 6 - (o' + 1) + 1 = 6 - o' by omega]
            refine s_X4_89 (pc := 87) (kc' := 0) (ks' := 0) rfl rfl (ac_readBracket htn hch (o := o') (d := 8 * (o' + 1)) (d2 := 8 * o' + 7) (by omega) hPc (p + 1) lt Y X st pn (by omega) (by omega) (by omega) hY hX) rfl (by simp only [aw_fr, aw_lo, fX4_readParts, fX4_readFactor, fX4_readNot, fX4_readBracket, fX4_next, fX4_isDigit, fX4_levelOf, fX4_addStep, fX4_writePlain, fX4_openPlain, fX4_readLetter, fX4_readNumber, fX4_firstError]; omega) (by simp only [aw_fr, aw_lo, fX4_readParts, fX4_readFactor, fX4_readNot, fX4_readBracket, fX4_next, fX4_isDigit, fX4_levelOf, fX4_addStep, fX4_writePlain, fX4_openPlain, fX4_readLetter, fX4_readNumber, fX4_firstError]; omega) (Nat.le_of_ble_eq_true rfl) (Nat.le_of_ble_eq_true rfl) (by exact (Nat.le_of_ble_eq_true rfl)) rfl (List.forall_mem_cons.mpr ⟨rfl, (List.forall_mem_cons.mpr ⟨rfl, fun _ h => nomatch h⟩)⟩) rfl dX4_readFactor_87 aw_tO (aw_kO (fun hok st2 pn2 hY2 hX2 => ?_) (fun hok k2 l2 lt2 st2 pn2 hk2 hl2 => ?_))
            · refine r_iret (pc := 90) rfl rfl dX4_readFactor_90 ?_
              exact pO_tt hok hY2 hX2
            · refine r_iret (pc := 90) rfl rfl dX4_readFactor_90 ?_
              exact pO_ff hok hk2 hl2
          · have ho0 : o = 0 := by
              have : ¬ 6 - o < 6 := fun z => h52 (nI_lt (a := 6 - o) (b := 6) z (by decide))
              omega
            refine r_iconst (pc := 55) (v := 0) dX4_readFactor_55 (by decide) ?_
            refine r_iret (pc := 56) rfl rfl dX4_readFactor_56 ?_
            exact pO_f (rest := (tlist tx p (tn - p))) (seg := []) (cF_no (show ¬ isDig (hd tx p tn) = true from by rw [bi_eq.mp h9]; decide) (show ¬ isLet (hd tx p tn) = true from fun z => by have := of_decide_eq_true z; exact absurd this.2 (Int32.not_le.mpr h27)) (Or.inl ho0)) (by omega) (by omega) (by rw [tlist_len]; omega)
        · refine r_iload_n (pc := 43) dX4_readFactor_43 rfl rfl ?_
          refine r_bipush (pc := 44) (v := 33) dX4_readFactor_44 (by decide) ?_
          refine r_icmp_ne (pc := 46) (tgt := 55) dX4_readFactor_46 (by decide) (fun h46 => ?_) (fun h46 => ?_)
          · refine r_iconst (pc := 55) (v := 0) dX4_readFactor_55 (by decide) ?_
            refine r_iret (pc := 56) rfl rfl dX4_readFactor_56 ?_
            exact pO_f (rest := (tlist tx p (tn - p))) (seg := []) (cF_no (show ¬ isDig (hd tx p tn) = true from by rw [bi_eq.mp h9]; decide) (show ¬ isLet (hd tx p tn) = true from fun z => by have := of_decide_eq_true z; exact absurd this.2 (Int32.not_le.mpr h27)) (Or.inr ⟨h40, h46⟩)) (by omega) (by omega) (by rw [tlist_len]; omega)
          · refine r_iload_n (pc := 49) dX4_readFactor_49 rfl rfl ?_
            refine r_bipush (pc := 50) (v := 6) dX4_readFactor_50 (by decide) ?_
            refine r_icmp_lt (pc := 52) (tgt := 57) dX4_readFactor_52 (by decide) (fun h52 => ?_) (fun h52 => ?_)
            · have ho0 : o ≠ 0 := fun z => by rw [z] at h52; exact absurd h52 (by decide)
              have hch9 : hd tx p tn = 33 := h46
              have hpt : p < tn := by
                refine Classical.byContradiction (fun z => ?_)
                rw [hd_ge z] at hch9
                exact absurd hch9 (by decide)
              have htx : tx p = 33 := (hd_lt hpt).symm.trans hch9
              obtain ⟨o', rfl, hF, hPc⟩ := hrec ho0
              have ho6 : o' + 1 ≤ 6 := ho
              rw [tl_cons hpt, htx, cF_33]
              refine r_aload_n (pc := 57) dX4_readFactor_57 rfl rfl ?_
              refine r_dup (pc := 58) dX4_readFactor_58 rfl ?_
              refine sg_19 (pc := 59) rfl dX4_readFactor_59 ?_
              refine r_iconst (pc := 62) (v := 1) dX4_readFactor_62 (by decide) ?_
              refine r_iadd (pc := 63) dX4_readFactor_63 ?_
              rw [nI_1]
              refine sp_19 (pc := 64) rfl dX4_readFactor_64 ?_
              refine r_iload_n (pc := 67) dX4_readFactor_67 rfl rfl ?_
              refine r_bipush (pc := 68) (v := 33) dX4_readFactor_68 (by decide) ?_
              refine r_icmp_ne (pc := 70) (tgt := 83) dX4_readFactor_70 (by decide) (fun h => absurd hch9 h) (fun h70 => ?_)
              refine r_aload_n (pc := 73) dX4_readFactor_73 rfl rfl ?_
              refine r_iload_n (pc := 74) dX4_readFactor_74 rfl rfl ?_
              refine r_iconst (pc := 75) (v := 1) dX4_readFactor_75 (by decide) ?_
              refine r_iadd (pc := 76) dX4_readFactor_76 ?_
              rw [nI_1, show 6 - (o' + 1) + 1 = 6 - o' by omega]
              refine s_X4_86 (pc := 77) (kc' := 0) (ks' := 0) rfl rfl (ac_readNot htn hch (o := o') rfl (d := 8 * (o' + 1)) (by omega) hF (p + 1) lt Y X st pn (by omega) (by omega) (by omega) hY hX) rfl (by simp only [aw_fr, aw_lo, fX4_readParts, fX4_readFactor, fX4_readNot, fX4_readBracket, fX4_next, fX4_isDigit, fX4_levelOf, fX4_addStep, fX4_writePlain, fX4_openPlain, fX4_readLetter, fX4_readNumber, fX4_firstError]; omega) (by simp only [aw_fr, aw_lo, fX4_readParts, fX4_readFactor, fX4_readNot, fX4_readBracket, fX4_next, fX4_isDigit, fX4_levelOf, fX4_addStep, fX4_writePlain, fX4_openPlain, fX4_readLetter, fX4_readNumber, fX4_firstError]; omega) (Nat.le_of_ble_eq_true rfl) (Nat.le_of_ble_eq_true rfl) (by exact (Nat.le_of_ble_eq_true rfl)) rfl (List.forall_mem_cons.mpr ⟨rfl, (List.forall_mem_cons.mpr ⟨rfl, fun _ h => nomatch h⟩)⟩) rfl dX4_readFactor_77 aw_tO (aw_kO (fun hok st2 pn2 hY2 hX2 => ?_) (fun hok k2 l2 lt2 st2 pn2 hk2 hl2 => ?_))
              · refine r_goto (pc := 80) (tgt := 90) dX4_readFactor_80 (by decide) ?_
                refine r_iret (pc := 90) rfl rfl dX4_readFactor_90 ?_
                exact pO_tt hok hY2 hX2
              · refine r_goto (pc := 80) (tgt := 90) dX4_readFactor_80 (by decide) ?_
                refine r_iret (pc := 90) rfl rfl dX4_readFactor_90 ?_
                exact pO_ff hok hk2 hl2
            · have ho0 : o = 0 := by
                have : ¬ 6 - o < 6 := fun z => h52 (nI_lt (a := 6 - o) (b := 6) z (by decide))
                omega
              refine r_iconst (pc := 55) (v := 0) dX4_readFactor_55 (by decide) ?_
              refine r_iret (pc := 56) rfl rfl dX4_readFactor_56 ?_
              exact pO_f (rest := (tlist tx p (tn - p))) (seg := []) (cF_no (show ¬ isDig (hd tx p tn) = true from by rw [bi_eq.mp h9]; decide) (show ¬ isLet (hd tx p tn) = true from fun z => by have := of_decide_eq_true z; exact absurd this.2 (Int32.not_le.mpr h27)) (Or.inl ho0)) (by omega) (by omega) (by rw [tlist_len]; omega)
      · have hlet : isLet (hd tx p tn) = true := decide_eq_true ⟨Int32.not_lt.mp h21, Int32.not_lt.mp h27⟩
        have hpt : p < tn := by
          refine Classical.byContradiction (fun z => ?_)
          rw [hd_ge z] at hlet
          exact absurd hlet (by decide)
        have hd9 := hd_lt (tx := tx) hpt
        rw [hd9] at hlet ⊢
        refine r_aload_n (pc := 30) dX4_readFactor_30 rfl rfl ?_
        refine r_iload_n (pc := 31) dX4_readFactor_31 rfl rfl ?_
        refine s_X4_83 (pc := 32) (kc' := 0) (ks' := 0) rfl rfl (ac_readLetter (by omega) (by omega) _) rfl (by simp only [aw_fr, aw_lo, fX4_readParts, fX4_readFactor, fX4_readNot, fX4_readBracket, fX4_next, fX4_isDigit, fX4_levelOf, fX4_addStep, fX4_writePlain, fX4_openPlain, fX4_readLetter, fX4_readNumber, fX4_firstError]; omega) (by simp only [aw_fr, aw_lo, fX4_readParts, fX4_readFactor, fX4_readNot, fX4_readBracket, fX4_next, fX4_isDigit, fX4_levelOf, fX4_addStep, fX4_writePlain, fX4_openPlain, fX4_readLetter, fX4_readNumber, fX4_firstError]; omega) (Nat.le_of_ble_eq_true rfl) (Nat.le_of_ble_eq_true rfl) (by exact (Nat.le_of_ble_eq_true rfl)) rfl (List.forall_mem_cons.mpr ⟨rfl, (List.forall_mem_cons.mpr ⟨rfl, fun _ h => nomatch h⟩)⟩) rfl dX4_readFactor_32 aw_kt (aw_kv ?_)
        refine r_iconst (pc := 35) (v := 1) dX4_readFactor_35 (by decide) ?_
        refine r_iret (pc := 36) rfl rfl dX4_readFactor_36 ?_
        have hfin := let_fin hlet lt
        refine pO_t (rest := tlist tx (p + 1) (tn - (p + 1))) (seg := [1000 + tx p - 97]) (by rw [tl_cons hpt]; exact cF_let (by rw [let_dig hlet]; decide) hlet) ?_ ?_ ?_ ?_ ?_ hfin.1.symm
        · show arow _ (Y ++ [stc (1000 + tx p - 97)])
          rw [hfin.2.1]; exact arow_up hY rfl
        · rw [hfin.2.2]; exact arow_up hX rfl
        · rw [tlist_len]; omega
        · simp
        · rw [hfin.2.2]; simp
  · have hdig := bi_ne.mp h9
    have hpt : p < tn := by
      refine Classical.byContradiction (fun z => ?_)
      rw [hd_ge z] at hdig
      exact absurd hdig (by decide)
    have hd9 := hd_lt (tx := tx) hpt
    rw [hd9] at hdig
    refine r_aload_n (pc := 12) dX4_readFactor_12 rfl rfl ?_
    refine s_X4_80 (pc := 13) (kc' := 0) (ks' := 0) rfl rfl (ac_readNumber htn hch hpt hdig hYp hXp hY hX) rfl (by simp only [aw_fr, aw_lo, fX4_readParts, fX4_readFactor, fX4_readNot, fX4_readBracket, fX4_next, fX4_isDigit, fX4_levelOf, fX4_addStep, fX4_writePlain, fX4_openPlain, fX4_readLetter, fX4_readNumber, fX4_firstError]; omega) (by simp only [aw_fr, aw_lo, fX4_readParts, fX4_readFactor, fX4_readNot, fX4_readBracket, fX4_next, fX4_isDigit, fX4_levelOf, fX4_addStep, fX4_writePlain, fX4_openPlain, fX4_readLetter, fX4_readNumber, fX4_firstError]; omega) (Nat.le_of_ble_eq_true rfl) (Nat.le_of_ble_eq_true rfl) (by exact (Nat.le_of_ble_eq_true rfl)) rfl (List.forall_mem_cons.mpr ⟨rfl, fun _ h => nomatch h⟩) rfl dX4_readFactor_13 aw_tR (aw_kR (fun st2 pn2 hY2 hX2 => ?_))
    refine r_iconst (pc := 16) (v := 1) dX4_readFactor_16 (by decide) ?_
    refine r_iret (pc := 17) rfl rfl dX4_readFactor_17 ?_
    have hfin := num_fin hdig (tlist tx (p + 1) (tn - (p + 1))) lt
    rw [tlist_len, show tn - (p + 1) + 1 = tn - p by omega] at hfin
    have e9 : tlist tx p (tn - p) = tx p :: tlist tx (p + 1) (tn - (p + 1)) := tl_cons hpt
    refine pO_t (rest := (cN 2 (tx p - 48) (tlist tx (p + 1) (tn - (p + 1)))).2) (seg := [(cN 2 (tx p - 48) (tlist tx (p + 1) (tn - (p + 1)))).1]) (by rw [e9]; exact cF_dig hdig) ?_ ?_ rfl ?_ ?_ hfin.1.symm
    · show arow st2 (Y ++ [stc (cN 2 (tx p - 48) (tlist tx (p + 1) (tn - (p + 1)))).1])
      rw [hfin.2.1]; exact hY2
    · rw [hfin.2.2, ← e9]; exact hX2
    · simp
    · rw [hfin.2.2, ← e9]
end S3
