/-! ===== the class: its reading of parts; the first error ===== -/
section S4
theorem ac_openL {G : aw_G} {c0 : va_E} {tx : Nat → Int32} {tn p : Nat} {lt : Int32} {st pn : Nat → Int32} {tl : List va_E} {Y X L : List Int32} (hl : (X ++ L).length < 80) (hY : arow st Y) (hX : arow pn (X ++ L)) : AM G fX4_openPlain [.ref 1, .int (nI X.length)] (sW c0 tx tn p Y.length (X ++ L).length lt st pn tl) (sR c0 tx tn tl (.inl none) p lt Y (X ++ (40 :: L))) := by
  refine AM_post ?_ (ac_openPlain hl (s := X.length) (by simp))
  rintro r w' ⟨rfl, pn2, rfl, h1, h2, h3⟩
  exact sR_of hY (arow_ins hX h1 h2 h3) rfl rfl (by simp; omega) rfl
set_option maxRecDepth 100000 in
set_option maxHeartbeats 4000000 in
theorem ac_parts5 {G : aw_G} {c0 : va_E} {tx : Nat → Int32} {tn : Nat} {tl : List va_E} {o d : Nat} (hd : 8 * o + 2 ≤ d) (hF : factC G c0 tx tn tl o (8 * o)) : partsC G c0 tx tn tl (cF o) 5 (6 - o) d := by
  intro p lt Y X st pn hp hYp hXp hY hX
  refine AM_of (show plainName RX4 = true by decide) rfl rfl (Nat.le_of_ble_eq_true rfl) ?_
  show AW G (fX4_readParts d) 0 0 (sW c0 tx tn p Y.length X.length lt st pn tl) 0 [some (.ref 1), some (.int (nI 5)), some (.int (nI (6 - o))), none, none, none, none] [] _
  refine r_iload_n (pc := 0) dX4_readParts_0 rfl rfl ?_
  refine r_iconst (pc := 1) (v := 4) dX4_readParts_1 (by decide) ?_
  refine r_icmp_le (pc := 2) (tgt := 11) dX4_readParts_2 (by decide) (fun h => absurd h (by decide)) (fun h2 => ?_)
  refine r_aload_n (pc := 5) dX4_readParts_5 rfl rfl ?_
  refine r_iload_n (pc := 6) dX4_readParts_6 rfl rfl ?_
  refine s_X4_53 (pc := 7) (kc' := 0) (ks' := 0) rfl rfl (hF p lt Y X st pn hp hYp hXp hY hX) rfl (by simp only [aw_fr, aw_lo, fX4_readParts, fX4_readFactor, fX4_readNot, fX4_readBracket, fX4_next, fX4_isDigit, fX4_levelOf, fX4_addStep, fX4_writePlain, fX4_openPlain, fX4_readLetter, fX4_readNumber, fX4_firstError]; omega) (by simp only [aw_fr, aw_lo, fX4_readParts, fX4_readFactor, fX4_readNot, fX4_readBracket, fX4_next, fX4_isDigit, fX4_levelOf, fX4_addStep, fX4_writePlain, fX4_openPlain, fX4_readLetter, fX4_readNumber, fX4_firstError]; omega) (Nat.le_of_ble_eq_true rfl) (Nat.le_of_ble_eq_true rfl) (by exact (Nat.le_of_ble_eq_true rfl)) rfl (List.forall_mem_cons.mpr ⟨rfl, (List.forall_mem_cons.mpr ⟨rfl, fun _ h => nomatch h⟩)⟩) rfl dX4_readParts_7 aw_tO (aw_kO (fun hok st2 pn2 hY2 hX2 => ?_) (fun hok k2 l2 lt2 st2 pn2 hk2 hl2 => ?_))
  · refine r_iret (pc := 10) rfl rfl dX4_readParts_10 ?_
    exact pO_tt hok hY2 hX2
  · refine r_iret (pc := 10) rfl rfl dX4_readParts_10 ?_
    exact pO_ff hok hk2 hl2
set_option maxRecDepth 100000 in
set_option maxHeartbeats 4000000 in
theorem lp_parts {G : aw_G} {c0 : va_E} {tx : Nat → Int32} {tn : Nat} {tl : List va_E} (htn : tn ≤ 40) (hch : chOK tx tn) {f : List Int32 → Bool × List Int32 × List Int32} {lv o op d d2 most : Nat} (hlv : lv ≤ 4) (hd2 : d2 + 1 ≤ d) (hF : partsC G c0 tx tn tl f (lv + 1) op d2) (hfok : fOK (lv + 1) o f) (hsuf : sufOK f) (hmost : most ≤ 40) (p : Nat) (lt : Int32) (Y X : List Int32) (hYp : Y.length ≤ p) (hXp : X.length ≤ 2 * p) : ∀ (m taken : Nat) (cs1 seg1 : List Int32) (n1 : Nat) (st pn : Nat → Int32), taken + m = most → cs1 = tlist tx (p + n1) (tn - (p + n1)) → p + n1 ≤ tn → segOK n1 seg1 → arow st (Y ++ seg1.map stc) → arow pn (X ++ plS seg1) → AW G (fX4_readParts d) 0 0 (sW c0 tx tn (p + n1) (Y ++ seg1.map stc).length (X ++ plS seg1).length (msk lt seg1) st pn tl) 45 [some (.ref 1), some (.int (nI lv)), some (.int (nI op)), some (.int (nI X.length)), some (.int (nI most)), some (.int (nI taken)), none] [] (pO c0 tx tn tl (cLoop f lv m cs1 seg1) lt Y X) := by
  intro m
  induction m with
  | zero =>
    intro taken cs1 seg1 n1 st pn htk hcs hp1 hs hY hX
    have hcl : cs1.length = tn - (p + n1) := by rw [hcs]; exact tlist_len _ _ _
    refine r_iload (pc := 45) dX4_readParts_45 rfl ?_
    refine r_iload (pc := 47) dX4_readParts_47 rfl ?_
    refine r_icmp_ge (pc := 49) (tgt := 122) dX4_readParts_49 (by decide) (fun h49 => ?_) (fun h => absurd (by rw [show taken = most by omega]; exact Int32.le_refl _) h)
    refine r_iconst (pc := 122) (v := 1) dX4_readParts_122 (by decide) ?_
    refine r_iret (pc := 123) rfl rfl dX4_readParts_123 ?_
    exact pO_t (rest := cs1) (seg := seg1) rfl hY hX (by rw [hcl]; omega) rfl rfl rfl
  | succ m ih =>
    intro taken cs1 seg1 n1 st pn htk hcs hp1 hs hY hX
    have hcl : cs1.length = tn - (p + n1) := by rw [hcs]; exact tlist_len _ _ _
    have hs1 := hs.2.2.2.1
    have hs2 := hs.2.2.2.2
    have hn0 := hs.1
    refine r_iload (pc := 45) dX4_readParts_45 rfl ?_
    refine r_iload (pc := 47) dX4_readParts_47 rfl ?_
    refine r_icmp_ge (pc := 49) (tgt := 122) dX4_readParts_49 (by decide) (fun h => absurd h (nI_ge9 (by omega) (by omega))) (fun h49 => ?_)
    refine r_aload_n (pc := 52) dX4_readParts_52 rfl rfl ?_
    refine s_X4_57 (pc := 53) (kc' := 0) (ks' := 0) rfl rfl (ac_next (by omega) htn hch) rfl (by simp only [aw_fr, aw_lo, fX4_readParts, fX4_readFactor, fX4_readNot, fX4_readBracket, fX4_next, fX4_isDigit, fX4_levelOf, fX4_addStep, fX4_writePlain, fX4_openPlain, fX4_readLetter, fX4_readNumber, fX4_firstError]; omega) (by simp only [aw_fr, aw_lo, fX4_readParts, fX4_readFactor, fX4_readNot, fX4_readBracket, fX4_next, fX4_isDigit, fX4_levelOf, fX4_addStep, fX4_writePlain, fX4_openPlain, fX4_readLetter, fX4_readNumber, fX4_firstError]; omega) (Nat.le_of_ble_eq_true rfl) (Nat.le_of_ble_eq_true rfl) (by exact (Nat.le_of_ble_eq_true rfl)) rfl (List.forall_mem_cons.mpr ⟨rfl, fun _ h => nomatch h⟩) rfl dX4_readParts_53 aw_kt (aw_kq ?_)
    refine s_X4_61 (pc := 56) (kc' := 0) (ks' := 0) rfl rfl (ac_levelOf _)  (by simp only [aw_fr, aw_lo, fX4_readParts, fX4_readFactor, fX4_readNot, fX4_readBracket, fX4_next, fX4_isDigit, fX4_levelOf, fX4_addStep, fX4_writePlain, fX4_openPlain, fX4_readLetter, fX4_readNumber, fX4_firstError]; omega) (by simp only [aw_fr, aw_lo, fX4_readParts, fX4_readFactor, fX4_readNot, fX4_readBracket, fX4_next, fX4_isDigit, fX4_levelOf, fX4_addStep, fX4_writePlain, fX4_openPlain, fX4_readLetter, fX4_readNumber, fX4_firstError]; omega) (Nat.le_of_ble_eq_true rfl) (Nat.le_of_ble_eq_true rfl) (by exact (Nat.le_of_ble_eq_true rfl)) rfl (List.forall_mem_cons.mpr ⟨rfl, fun _ h => nomatch h⟩) rfl dX4_readParts_56 aw_kt (aw_kq ?_)
    refine r_iload_n (pc := 59) dX4_readParts_59 rfl rfl ?_
    refine r_icmp_ne (pc := 60) (tgt := 122) dX4_readParts_60 (by decide) (fun h60 => ?_) (fun h60 => ?_)
    · refine r_iconst (pc := 122) (v := 1) dX4_readParts_122 (by decide) ?_
      refine r_iret (pc := 123) rfl rfl dX4_readParts_123 ?_
      have hne : cLoop f lv (m + 1) cs1 seg1 = (true, cs1, seg1) := by
        cases hz : cs1 with
        | nil => rfl
        | cons c t =>
          rw [cLoop, if_neg]
          intro z
          refine h60 ((lvI_eq (by omega)).mpr ?_)
          rw [hd_rest hcs, hz]
          exact z
      exact pO_t hne hY hX (by rw [hcl]; omega) rfl rfl rfl
    · have hrk0 : rkN (hd tx (p + n1) tn) = lv + 1 := (lvI_eq (by omega)).mp h60
      have hpt : p + n1 < tn := by
        refine Classical.byContradiction (fun z => ?_)
        rw [hd_ge z] at hrk0
        exact absurd (show 0 = lv + 1 from hrk0) (by omega)
      have hd9 := hd_lt (tx := tx) hpt
      rw [hd9] at hrk0
      rw [hcs, tl_cons hpt] at ⊢
      have hrk := hrk0
      have hc0 : 0 < rkN (tx (p + n1)) := by omega
      have q := rkN_cls hc0
      obtain ⟨n2, hn2, -, hb⟩ := hfok (tlist tx (p + n1 + 1) (tn - (p + n1 + 1))) (by rw [tlist_len]; omega)
      rw [tlist_len] at hn2
      obtain ⟨a, ha⟩ := hsuf (tlist tx (p + n1 + 1) (tn - (p + n1 + 1)))
      obtain ⟨e1, e2⟩ := tl_suf a (p + n1 + 1) (by omega) ha
      refine r_aload_n (pc := 63) dX4_readParts_63 rfl rfl ?_
      refine s_X4_57 (pc := 64) (kc' := 0) (ks' := 0) rfl rfl (ac_next (by omega) htn hch) rfl (by simp only [aw_fr, aw_lo, fX4_readParts, fX4_readFactor, fX4_readNot, fX4_readBracket, fX4_next, fX4_isDigit, fX4_levelOf, fX4_addStep, fX4_writePlain, fX4_openPlain, fX4_readLetter, fX4_readNumber, fX4_firstError]; omega) (by simp only [aw_fr, aw_lo, fX4_readParts, fX4_readFactor, fX4_readNot, fX4_readBracket, fX4_next, fX4_isDigit, fX4_levelOf, fX4_addStep, fX4_writePlain, fX4_openPlain, fX4_readLetter, fX4_readNumber, fX4_firstError]; omega) (Nat.le_of_ble_eq_true rfl) (Nat.le_of_ble_eq_true rfl) (by exact (Nat.le_of_ble_eq_true rfl)) rfl (List.forall_mem_cons.mpr ⟨rfl, fun _ h => nomatch h⟩) rfl dX4_readParts_64 aw_kt (aw_kq ?_)
      rw [hd9]
      refine r_istore (pc := 67) dX4_readParts_67 (Nat.le_of_ble_eq_true rfl) rfl ?_
      refine r_aload_n (pc := 69) dX4_readParts_69 rfl rfl ?_
      refine r_dup (pc := 70) dX4_readParts_70 rfl ?_
      refine sg_19 (pc := 71) rfl dX4_readParts_71 ?_
      refine r_iconst (pc := 74) (v := 1) dX4_readParts_74 (by decide) ?_
      refine r_iadd (pc := 75) dX4_readParts_75 ?_
      rw [nI_1]
      refine sp_19 (pc := 76) rfl dX4_readParts_76 ?_
      refine r_aload_n (pc := 79) dX4_readParts_79 rfl rfl ?_
      refine r_iload_n (pc := 80) dX4_readParts_80 rfl rfl ?_
      refine s_X4_65 (pc := 81) (kc' := 0) (ks' := 0) rfl rfl (ac_openL (by simp; omega) hY hX) rfl (by simp only [aw_fr, aw_lo, fX4_readParts, fX4_readFactor, fX4_readNot, fX4_readBracket, fX4_next, fX4_isDigit, fX4_levelOf, fX4_addStep, fX4_writePlain, fX4_openPlain, fX4_readLetter, fX4_readNumber, fX4_firstError]; omega) (by simp only [aw_fr, aw_lo, fX4_readParts, fX4_readFactor, fX4_readNot, fX4_readBracket, fX4_next, fX4_isDigit, fX4_levelOf, fX4_addStep, fX4_writePlain, fX4_openPlain, fX4_readLetter, fX4_readNumber, fX4_firstError]; omega) (Nat.le_of_ble_eq_true rfl) (Nat.le_of_ble_eq_true rfl) (by exact (Nat.le_of_ble_eq_true rfl)) rfl (List.forall_mem_cons.mpr ⟨rfl, (List.forall_mem_cons.mpr ⟨rfl, fun _ h => nomatch h⟩)⟩) rfl dX4_readParts_81 aw_tR (aw_kR (fun st2 pn2 hY2 hX2 => ?_))
      refine r_aload_n (pc := 84) dX4_readParts_84 rfl rfl ?_
      refine r_iload (pc := 85) dX4_readParts_85 rfl ?_
      refine s_X4_69 (pc := 87) (kc' := 0) (ks' := 0) rfl rfl (ac_writePlain (by simp; omega) _) rfl (by simp only [aw_fr, aw_lo, fX4_readParts, fX4_readFactor, fX4_readNot, fX4_readBracket, fX4_next, fX4_isDigit, fX4_levelOf, fX4_addStep, fX4_writePlain, fX4_openPlain, fX4_readLetter, fX4_readNumber, fX4_firstError]; omega) (by simp only [aw_fr, aw_lo, fX4_readParts, fX4_readFactor, fX4_readNot, fX4_readBracket, fX4_next, fX4_isDigit, fX4_levelOf, fX4_addStep, fX4_writePlain, fX4_openPlain, fX4_readLetter, fX4_readNumber, fX4_firstError]; omega) (Nat.le_of_ble_eq_true rfl) (Nat.le_of_ble_eq_true rfl) (by exact (Nat.le_of_ble_eq_true rfl)) rfl (List.forall_mem_cons.mpr ⟨rfl, (List.forall_mem_cons.mpr ⟨rfl, fun _ h => nomatch h⟩)⟩) rfl dX4_readParts_87 aw_kt (aw_kv ?_)
      refine r_aload_n (pc := 90) dX4_readParts_90 rfl rfl ?_
      refine r_iload_n (pc := 91) dX4_readParts_91 rfl rfl ?_
      refine r_iconst (pc := 92) (v := 1) dX4_readParts_92 (by decide) ?_
      refine r_iadd (pc := 93) dX4_readParts_93 ?_
      refine r_iload_n (pc := 94) dX4_readParts_94 rfl rfl ?_
      rw [nI_1, show (X ++ 40 :: plS seg1).length + 1 = (X ++ (40 :: plS seg1) ++ [tx (p + n1)]).length by simp; omega]
      refine s_X4_38 (pc := 95) (kc' := 0) (ks' := 0) rfl rfl (hF (p + n1 + 1) (msk lt seg1) (Y ++ seg1.map stc) (X ++ (40 :: plS seg1) ++ [tx (p + n1)]) st2 (upd pn2 (X ++ 40 :: plS seg1).length (tx (p + n1))) (by omega) (by simp; omega) (by simp; omega) hY2 (arow_up hX2 rfl)) rfl (by simp only [aw_fr, aw_lo, fX4_readParts, fX4_readFactor, fX4_readNot, fX4_readBracket, fX4_next, fX4_isDigit, fX4_levelOf, fX4_addStep, fX4_writePlain, fX4_openPlain, fX4_readLetter, fX4_readNumber, fX4_firstError]; omega) (by simp only [aw_fr, aw_lo, fX4_readParts, fX4_readFactor, fX4_readNot, fX4_readBracket, fX4_next, fX4_isDigit, fX4_levelOf, fX4_addStep, fX4_writePlain, fX4_openPlain, fX4_readLetter, fX4_readNumber, fX4_firstError]; omega) (Nat.le_of_ble_eq_true rfl) (Nat.le_of_ble_eq_true rfl) (by exact (Nat.le_of_ble_eq_true rfl)) rfl (List.forall_mem_cons.mpr ⟨rfl, (List.forall_mem_cons.mpr ⟨rfl, (List.forall_mem_cons.mpr ⟨rfl, fun _ h => nomatch h⟩)⟩)⟩) rfl dX4_readParts_95 aw_tO (aw_kO (fun hok st3 pn3 hY3 hX3 => ?_) (fun hok k2 l2 lt2 st2 pn2 hk2 hl2 => ?_))
      · refine r_if_ne (pc := 98) (tgt := 103) dX4_readParts_98 (by decide) (fun _ => ?_) (fun h => absurd h (by decide))
        have hseg := (hb hok).1
        have hs3 := hseg.2.2.2.1
        have hs4 := hseg.2.2.2.2
        have hsl := plS_len hseg.2.1
        refine r_aload_n (pc := 103) dX4_readParts_103 rfl rfl ?_
        refine r_bipush (pc := 104) (v := 41) dX4_readParts_104 (by decide) ?_
        refine s_X4_69 (pc := 106) (kc' := 0) (ks' := 0) rfl rfl (ac_writePlain (by simp; omega) _) rfl (by simp only [aw_fr, aw_lo, fX4_readParts, fX4_readFactor, fX4_readNot, fX4_readBracket, fX4_next, fX4_isDigit, fX4_levelOf, fX4_addStep, fX4_writePlain, fX4_openPlain, fX4_readLetter, fX4_readNumber, fX4_firstError]; omega) (by simp only [aw_fr, aw_lo, fX4_readParts, fX4_readFactor, fX4_readNot, fX4_readBracket, fX4_next, fX4_isDigit, fX4_levelOf, fX4_addStep, fX4_writePlain, fX4_openPlain, fX4_readLetter, fX4_readNumber, fX4_firstError]; omega) (Nat.le_of_ble_eq_true rfl) (Nat.le_of_ble_eq_true rfl) (by exact (Nat.le_of_ble_eq_true rfl)) rfl (List.forall_mem_cons.mpr ⟨rfl, (List.forall_mem_cons.mpr ⟨rfl, fun _ h => nomatch h⟩)⟩) rfl dX4_readParts_106 aw_kt (aw_kv ?_)
        refine r_aload_n (pc := 109) dX4_readParts_109 rfl rfl ?_
        refine r_iload (pc := 110) dX4_readParts_110 rfl ?_
        refine r_ineg (pc := 112) dX4_readParts_112 ?_
        refine s_X4_73 (pc := 113) (kc' := 0) (ks' := 0) rfl rfl (ac_addStep (by simp; omega) _) rfl (by simp only [aw_fr, aw_lo, fX4_readParts, fX4_readFactor, fX4_readNot, fX4_readBracket, fX4_next, fX4_isDigit, fX4_levelOf, fX4_addStep, fX4_writePlain, fX4_openPlain, fX4_readLetter, fX4_readNumber, fX4_firstError]; omega) (by simp only [aw_fr, aw_lo, fX4_readParts, fX4_readFactor, fX4_readNot, fX4_readBracket, fX4_next, fX4_isDigit, fX4_levelOf, fX4_addStep, fX4_writePlain, fX4_openPlain, fX4_readLetter, fX4_readNumber, fX4_firstError]; omega) (Nat.le_of_ble_eq_true rfl) (Nat.le_of_ble_eq_true rfl) (by exact (Nat.le_of_ble_eq_true rfl)) rfl (List.forall_mem_cons.mpr ⟨rfl, (List.forall_mem_cons.mpr ⟨rfl, fun _ h => nomatch h⟩)⟩) rfl dX4_readParts_113 aw_kt (aw_kv ?_)
        refine r_iincK (pc := 116) (k9 := 1) dX4_readParts_116 (by decide) rfl (Nat.le_of_ble_eq_true rfl) rfl ?_
        refine r_goto (pc := 119) (tgt := 45) dX4_readParts_119 (by decide) ?_
        refine AW_drop 6 rfl ?_
        rw [nI_1]
        have hpl : tn - (f (tlist tx (p + n1 + 1) (tn - (p + n1 + 1)))).2.1.length = p + (n1 + 1 + n2) := by omega
        have hb2 := plS_bin hs.2.1 hseg.2.1 (c := 2000 + tx (p + n1)) q.2.2.2.2.2.1 q.2.2.2.2.2.2.1
        rw [sg_back] at hb2
        have h9 := ih (taken + 1) (f (tlist tx (p + n1 + 1) (tn - (p + n1 + 1)))).2.1 (seg1 ++ (f (tlist tx (p + n1 + 1) (tn - (p + n1 + 1)))).2.2 ++ [2000 + tx (p + n1)]) (n1 + 1 + n2) (upd st3 (Y ++ List.map stc seg1 ++ List.map stc (f (tlist tx (p + n1 + 1) (tn - (p + n1 + 1)))).2.2).length (-tx (p + n1))) (upd pn3 ((X ++ (40 :: plS seg1) ++ [tx (p + n1)]) ++ plS (f (tlist tx (p + n1 + 1) (tn - (p + n1 + 1)))).2.2).length 41) (by omega) (by rw [← hpl]; exact e1) (by omega) (segOK_bin hs hseg hc0) ?_ ?_
        · have e3 : (Y ++ (seg1 ++ (f (tlist tx (p + n1 + 1) (tn - (p + n1 + 1)))).2.2 ++ [2000 + tx (p + n1)]).map stc).length = (Y ++ List.map stc seg1 ++ List.map stc (f (tlist tx (p + n1 + 1) (tn - (p + n1 + 1)))).2.2).length + 1 := by simp; omega
          have e4 : (X ++ plS (seg1 ++ (f (tlist tx (p + n1 + 1) (tn - (p + n1 + 1)))).2.2 ++ [2000 + tx (p + n1)])).length = ((X ++ (40 :: plS seg1) ++ [tx (p + n1)]) ++ plS (f (tlist tx (p + n1 + 1) (tn - (p + n1 + 1)))).2.2).length + 1 := by rw [hb2]; simp; omega
          have e5 : msk lt (seg1 ++ (f (tlist tx (p + n1 + 1) (tn - (p + n1 + 1)))).2.2 ++ [2000 + tx (p + n1)]) = msk (msk lt seg1) (f (tlist tx (p + n1 + 1) (tn - (p + n1 + 1)))).2.2 := by rw [msk_app, msk_sg hc0, msk_app]
          rw [e3, e4, e5] at h9
          rw [hpl]
          rw [cLoop, if_pos hrk, if_pos hok]
          exact h9
        · rw [List.map_append, List.map_append, ← List.append_assoc, ← List.append_assoc, show List.map stc [2000 + tx (p + n1)] = [-tx (p + n1)] from by rw [List.map_cons, stc_sg hc0]; rfl]
          exact arow_up hY3 rfl
        · rw [hb2]
          have := arow_up (x := 41) hX3 rfl
          simpa [List.append_assoc] using this
      · refine r_if_ne (pc := 98) (tgt := 103) dX4_readParts_98 (by decide) (fun h => absurd h (by decide)) (fun _ => ?_)
        refine r_iconst (pc := 101) (v := 0) dX4_readParts_101 (by decide) ?_
        refine r_iret (pc := 102) rfl rfl dX4_readParts_102 ?_
        rw [cLoop, if_pos hrk, if_neg (by rw [hok]; decide)]
        exact pO_f (rest := (f (tlist tx (p + n1 + 1) (tn - (p + n1 + 1)))).2.1) (seg := []) rfl hk2 hl2 rfl
set_option maxRecDepth 100000 in
set_option maxHeartbeats 4000000 in
theorem ac_partsL {G : aw_G} {c0 : va_E} {tx : Nat → Int32} {tn : Nat} {tl : List va_E} (htn : tn ≤ 40) (hch : chOK tx tn) {f : List Int32 → Bool × List Int32 × List Int32} {lv o op d d2 : Nat} (hlv : lv ≤ 4) (hd2 : d2 + 1 ≤ d) (hF : partsC G c0 tx tn tl f (lv + 1) op d2) (hfok : fOK (lv + 1) o f) (hsuf : sufOK f) : partsC G c0 tx tn tl (cLv f lv (if lv = 2 then 1 else 40)) lv op d := by
  intro p lt Y X st pn hp hYp hXp hY hX
  refine AM_of (show plainName RX4 = true by decide) rfl rfl (Nat.le_of_ble_eq_true rfl) ?_
  show AW G (fX4_readParts d) 0 0 (sW c0 tx tn p Y.length X.length lt st pn tl) 0 [some (.ref 1), some (.int (nI lv)), some (.int (nI op)), none, none, none, none] [] _
  refine r_iload_n (pc := 0) dX4_readParts_0 rfl rfl ?_
  refine r_iconst (pc := 1) (v := 4) dX4_readParts_1 (by decide) ?_
  refine r_icmp_le (pc := 2) (tgt := 11) dX4_readParts_2 (by decide) (fun h2 => ?_) (fun h => absurd (nI_le (a := lv) (b := 4) hlv (by decide)) h)
  refine r_aload_n (pc := 11) dX4_readParts_11 rfl rfl ?_
  refine sg_32 (pc := 12) rfl dX4_readParts_12 ?_
  refine r_istore_n (pc := 15) dX4_readParts_15 rfl (Nat.le_of_ble_eq_true rfl) rfl ?_
  refine r_aload_n (pc := 16) dX4_readParts_16 rfl rfl ?_
  refine r_iload_n (pc := 17) dX4_readParts_17 rfl rfl ?_
  refine r_iconst (pc := 18) (v := 1) dX4_readParts_18 (by decide) ?_
  refine r_iadd (pc := 19) dX4_readParts_19 ?_
  refine r_iload_n (pc := 20) dX4_readParts_20 rfl rfl ?_
  rw [nI_1]
  refine s_X4_38 (pc := 21) (kc' := 0) (ks' := 0) rfl rfl (hF p lt Y X st pn hp hYp hXp hY hX) rfl (by simp only [aw_fr, aw_lo, fX4_readParts, fX4_readFactor, fX4_readNot, fX4_readBracket, fX4_next, fX4_isDigit, fX4_levelOf, fX4_addStep, fX4_writePlain, fX4_openPlain, fX4_readLetter, fX4_readNumber, fX4_firstError]; omega) (by simp only [aw_fr, aw_lo, fX4_readParts, fX4_readFactor, fX4_readNot, fX4_readBracket, fX4_next, fX4_isDigit, fX4_levelOf, fX4_addStep, fX4_writePlain, fX4_openPlain, fX4_readLetter, fX4_readNumber, fX4_firstError]; omega) (Nat.le_of_ble_eq_true rfl) (Nat.le_of_ble_eq_true rfl) (by exact (Nat.le_of_ble_eq_true rfl)) rfl (List.forall_mem_cons.mpr ⟨rfl, (List.forall_mem_cons.mpr ⟨rfl, (List.forall_mem_cons.mpr ⟨rfl, fun _ h => nomatch h⟩)⟩)⟩) rfl dX4_readParts_21 aw_tO (aw_kO (fun hok st2 pn2 hY2 hX2 => ?_) (fun hok k2 l2 lt2 st2 pn2 hk2 hl2 => ?_))
  · refine r_if_ne (pc := 24) (tgt := 29) dX4_readParts_24 (by decide) (fun _ => ?_) (fun h => absurd h (by decide))
    obtain ⟨a, ha⟩ := hsuf (tlist tx p (tn - p))
    obtain ⟨e1, e2⟩ := tl_suf a p hp ha
    obtain ⟨n, hn, -, hb⟩ := hfok (tlist tx p (tn - p)) (by rw [tlist_len]; omega)
    have hseg := (hb hok).1
    rw [tlist_len] at hn
    have hpl : tn - (f (tlist tx p (tn - p))).2.1.length = p + n := by omega
    refine r_iload_n (pc := 29) dX4_readParts_29 rfl rfl ?_
    refine r_iconst (pc := 30) (v := 2) dX4_readParts_30 (by decide) ?_
    refine r_icmp_ne (pc := 31) (tgt := 38) dX4_readParts_31 (by decide) (fun h31 => ?_) (fun h31 => ?_)
    · refine r_bipush (pc := 38) (v := 40) dX4_readParts_38 (by decide) ?_
      refine r_istore (pc := 40) dX4_readParts_40 (Nat.le_of_ble_eq_true rfl) rfl ?_
      refine r_iconst (pc := 42) (v := 0) dX4_readParts_42 (by decide) ?_
      refine r_istore (pc := 43) dX4_readParts_43 (Nat.le_of_ble_eq_true rfl) rfl ?_
      have hm : (if lv = 2 then 1 else 40) = 40 := if_neg (fun z => h31 (by rw [z]; rfl))
      have h9 := lp_parts (G := G) (c0 := c0) (tl := tl) htn hch hlv hd2 hF hfok hsuf (most := 40) (by decide) p lt Y X hYp hXp 40 0 (f (tlist tx p (tn - p))).2.1 (f (tlist tx p (tn - p))).2.2 n st2 pn2 rfl (by rw [← hpl]; exact e1) (by omega) hseg hY2 hX2
      rw [← hpl] at h9
      rw [hm]
      unfold cLv
      rw [if_pos hok]
      exact h9
    · refine r_iconst (pc := 34) (v := 1) dX4_readParts_34 (by decide) ?_
      refine r_goto (pc := 35) (tgt := 40) dX4_readParts_35 (by decide) ?_
      refine r_istore (pc := 40) dX4_readParts_40 (Nat.le_of_ble_eq_true rfl) rfl ?_
      refine r_iconst (pc := 42) (v := 0) dX4_readParts_42 (by decide) ?_
      refine r_istore (pc := 43) dX4_readParts_43 (Nat.le_of_ble_eq_true rfl) rfl ?_
      have hm : (if lv = 2 then 1 else 40) = 1 := if_pos ((nI_eq (b := 2) (by omega) (by decide)).mp h31)
      have h9 := lp_parts (G := G) (c0 := c0) (tl := tl) htn hch hlv hd2 hF hfok hsuf (most := 1) (by decide) p lt Y X hYp hXp 1 0 (f (tlist tx p (tn - p))).2.1 (f (tlist tx p (tn - p))).2.2 n st2 pn2 rfl (by rw [← hpl]; exact e1) (by omega) hseg hY2 hX2
      rw [← hpl] at h9
      rw [hm]
      unfold cLv
      rw [if_pos hok]
      exact h9
  · refine r_if_ne (pc := 24) (tgt := 29) dX4_readParts_24 (by decide) (fun h => absurd h (by decide)) (fun _ => ?_)
    refine r_iconst (pc := 27) (v := 0) dX4_readParts_27 (by decide) ?_
    refine r_iret (pc := 28) rfl rfl dX4_readParts_28 ?_
    exact pO_f (rest := (f (tlist tx p (tn - p))).2.1) (seg := []) (by unfold cLv; rw [if_neg (by rw [hok]; decide)]) hk2 hl2 rfl
theorem ac_parts0 {G : aw_G} {c0 : va_E} {tx : Nat → Int32} {tn : Nat} {tl : List va_E} (htn : tn ≤ 40) (hch : chOK tx tn) {o : Nat} (hF : factC G c0 tx tn tl o (8 * o)) : partsC G c0 tx tn tl (cL0 (cF o)) 0 (6 - o) (8 * o + 7) :=
  have h5 := ac_parts5 (d := 8 * o + 2) (Nat.le_refl _) hF
  have k5 : fOK 5 o (cF o) := fOK_of (cF_ok o)
  have s5 := cF_suf o
  have h4 := ac_partsL htn hch (lv := 4) (d := 8 * o + 3) (by decide) (Nat.le_refl _) h5 k5 s5
  have k4 := lv_ok (lv := 4) (most := 40) (by decide) (fun _ => rfl) (fun z => by cases z) k5
  have s4 := lv_suf s5 4 40
  have h3 := ac_partsL htn hch (lv := 3) (d := 8 * o + 4) (by decide) (Nat.le_refl _) h4 k4 s4
  have k3 := lv_ok (lv := 3) (most := 40) (by decide) (fun _ => rfl) (fun z => by cases z) k4
  have s3 := lv_suf s4 3 40
  have h2 := ac_partsL htn hch (lv := 2) (d := 8 * o + 5) (by decide) (Nat.le_refl _) h3 k3 s3
  have k2 := lv_ok (lv := 2) (most := 1) (by decide) (fun z => absurd rfl z) (fun _ => rfl) k3
  have s2 := lv_suf s3 2 1
  have h1 := ac_partsL htn hch (lv := 1) (d := 8 * o + 6) (by decide) (Nat.le_refl _) h2 k2 s2
  have k1 := lv_ok (lv := 1) (most := 40) (by decide) (fun _ => rfl) (fun z => by cases z) k2
  have s1 := lv_suf s2 1 40
  ac_partsL htn hch (lv := 0) (d := 8 * o + 7) (by decide) (Nat.le_refl _) h1 k1 s1
theorem ac_fact {G : aw_G} {c0 : va_E} {tx : Nat → Int32} {tn : Nat} {tl : List va_E} (htn : tn ≤ 40) (hch : chOK tx tn) : ∀ o : Nat, o ≤ 6 → factC G c0 tx tn tl o (8 * o)
  | 0, h => ac_readFactor htn hch h (fun z => absurd rfl z)
  | o + 1, h => ac_readFactor htn hch h (fun _ => ⟨o, rfl, ac_fact htn hch o (by omega), ac_parts0 htn hch (ac_fact htn hch o (by omega))⟩)
/-- what the first error leaves -/
def feQ (c0 : va_E) (tx : Nat → Int32) (tn : Nat) (tl : List va_E) : aw_R → List va_E → Prop := (fun r w' => (((cT (tlist tx 0 tn)).1 = true ∧ (cT (tlist tx 0 tn)).2.1 = []) ∧ ∃ st2 pn2 : Nat → Int32, arow st2 ((cT (tlist tx 0 tn)).2.2.map stc) ∧ arow pn2 (plS (cT (tlist tx 0 tn)).2.2) ∧ r = .inl (some (.int (-1))) ∧ w' = sW c0 tx tn tn ((cT (tlist tx 0 tn)).2.2.map stc).length (plS (cT (tlist tx 0 tn)).2.2).length (msk 0 (cT (tlist tx 0 tn)).2.2) st2 pn2 tl) ∨ (¬ ((cT (tlist tx 0 tn)).1 = true ∧ (cT (tlist tx 0 tn)).2.1 = []) ∧ ∃ (p2 k2 l2 : Nat) (lt2 : Int32) (st2 pn2 : Nat → Int32), k2 ≤ 40 ∧ l2 ≤ 80 ∧ p2 = tn - (cT (tlist tx 0 tn)).2.1.length ∧ r = .inl (some (.int (nI p2))) ∧ w' = sW c0 tx tn p2 k2 l2 lt2 st2 pn2 tl))
set_option maxRecDepth 100000 in
set_option maxHeartbeats 4000000 in
theorem ac_firstError {G : aw_G} {c0 : va_E} {tx : Nat → Int32} {tn : Nat} {tl : List va_E} (htn : tn ≤ 40) (hch : chOK tx tn) {p k l : Nat} {lt : Int32} {st pn : Nat → Int32} : AM G fX4_firstError [.ref 1] (sW c0 tx tn p k l lt st pn tl) (feQ c0 tx tn tl) := by
  refine AM_of (show plainName RX4 = true by decide) rfl rfl (Nat.le_of_ble_eq_true rfl) ?_
  show AW G fX4_firstError 0 0 (sW c0 tx tn p k l lt st pn tl) 0 [some (.ref 1)] [] _
  refine r_aload_n (pc := 0) dX4_firstError_0 rfl rfl ?_
  refine r_iconst (pc := 1) (v := 0) dX4_firstError_1 (by decide) ?_
  rw [show (.int (0 : Int32) :: (.ref 1 :: [] : List Value)) = .int (nI 0) :: .ref 1 :: [] from rfl]
  refine sp_19 (pc := 2) rfl dX4_firstError_2 ?_
  refine r_aload_n (pc := 5) dX4_firstError_5 rfl rfl ?_
  refine r_iconst (pc := 6) (v := 0) dX4_firstError_6 (by decide) ?_
  rw [show (.int (0 : Int32) :: (.ref 1 :: [] : List Value)) = .int (nI 0) :: .ref 1 :: [] from rfl]
  refine sp_26 (pc := 7) rfl dX4_firstError_7 ?_
  refine r_aload_n (pc := 10) dX4_firstError_10 rfl rfl ?_
  refine r_iconst (pc := 11) (v := 0) dX4_firstError_11 (by decide) ?_
  rw [show (.int (0 : Int32) :: (.ref 1 :: [] : List Value)) = .int (nI 0) :: .ref 1 :: [] from rfl]
  refine sp_32 (pc := 12) rfl dX4_firstError_12 ?_
  refine r_aload_n (pc := 15) dX4_firstError_15 rfl rfl ?_
  refine r_iconst (pc := 16) (v := 0) dX4_firstError_16 (by decide) ?_
  refine sp_35 (pc := 17) rfl dX4_firstError_17 ?_
  refine r_aload_n (pc := 20) dX4_firstError_20 rfl rfl ?_
  refine r_iconst (pc := 21) (v := 0) dX4_firstError_21 (by decide) ?_
  refine r_iconst (pc := 22) (v := 0) dX4_firstError_22 (by decide) ?_
  have h0 := ac_parts0 (G := G) (c0 := c0) (tl := tl) htn hch (ac_fact htn hch 6 (by decide)) 0 0 [] [] st pn (Nat.zero_le _) (Nat.le_refl _) (Nat.le_refl _) (fun i x h => by cases h) (fun i x h => by cases h)
  rw [Nat.sub_zero] at h0
  refine s_X4_38 (pc := 23) (kc' := 0) (ks' := 0) rfl rfl h0 rfl (by simp only [aw_fr, aw_lo, fX4_readParts, fX4_readFactor, fX4_readNot, fX4_readBracket, fX4_next, fX4_isDigit, fX4_levelOf, fX4_addStep, fX4_writePlain, fX4_openPlain, fX4_readLetter, fX4_readNumber, fX4_firstError]; omega) (by simp only [aw_fr, aw_lo, fX4_readParts, fX4_readFactor, fX4_readNot, fX4_readBracket, fX4_next, fX4_isDigit, fX4_levelOf, fX4_addStep, fX4_writePlain, fX4_openPlain, fX4_readLetter, fX4_readNumber, fX4_firstError]; omega) (Nat.le_of_ble_eq_true rfl) (Nat.le_of_ble_eq_true rfl) (by exact (Nat.le_of_ble_eq_true rfl)) rfl (List.forall_mem_cons.mpr ⟨rfl, (List.forall_mem_cons.mpr ⟨rfl, (List.forall_mem_cons.mpr ⟨rfl, fun _ h => nomatch h⟩)⟩)⟩) rfl dX4_firstError_23 aw_tO (aw_kO (fun hok st2 pn2 hY2 hX2 => ?_) (fun hok k2 l2 lt2 st2 pn2 hk2 hl2 => ?_))
  · refine r_if_eq (pc := 26) (tgt := 44) dX4_firstError_26 (by decide) (fun h => absurd h (by decide)) (fun _ => ?_)
    obtain ⟨n, hn, -, hb⟩ := l0_ok (fOK_of (cF_ok 6)) (tlist tx 0 tn) (by rw [tlist_len]; omega)
    have hseg := (hb hok).1
    rw [tlist_len] at hn
    have hs1 := hseg.2.2.2.1
    have hs2 := hseg.2.2.2.2
    have hn0 := hseg.1
    have hkl : ([] ++ List.map stc (cL0 (cF 6) (tlist tx 0 tn)).2.2).length ≤ 40 ∧ ([] ++ plS (cL0 (cF 6) (tlist tx 0 tn)).2.2).length ≤ 80 := ⟨by simp; omega, by simp; omega⟩
    refine r_aload_n (pc := 29) dX4_firstError_29 rfl rfl ?_
    refine sg_19 (pc := 30) rfl dX4_firstError_30 ?_
    refine r_aload_n (pc := 33) dX4_firstError_33 rfl rfl ?_
    refine sg_15 (pc := 34) rfl dX4_firstError_34 ?_
    refine r_icmp_ne (pc := 37) (tgt := 44) dX4_firstError_37 (by decide) (fun h37 => ?_) (fun h37 => ?_)
    · refine r_aload_n (pc := 44) dX4_firstError_44 rfl rfl ?_
      refine sg_19 (pc := 45) rfl dX4_firstError_45 ?_
      refine r_iret (pc := 48) rfl rfl dX4_firstError_48 ?_
      exact Or.inr ⟨fun z => h37 (by rw [show (cL0 (cF 6) (tlist tx 0 tn)).2.1 = [] from z.2]; rfl), _, _, _, _, _, _, hkl.1, hkl.2, rfl, rfl, rfl⟩
    · refine r_iconst (pc := 40) (v := -1) dX4_firstError_40 (by decide) ?_
      refine r_goto (pc := 41) (tgt := 48) dX4_firstError_41 (by decide) ?_
      refine r_iret (pc := 48) rfl rfl dX4_firstError_48 ?_
      have hr : (cT (tlist tx 0 tn)).2.1 = [] := by
        have := (nI_eq (by omega) (by omega)).mp h37
        refine List.length_eq_zero_iff.mp ?_
        show (cL0 (cF 6) (tlist tx 0 tn)).2.1.length = 0
        omega
      refine Or.inl ⟨⟨hok, hr⟩, st2, pn2, hY2, hX2, rfl, ?_⟩
      rw [show (cL0 (cF 6) (tlist tx 0 tn)).2.1 = [] from hr]
      rfl
  · refine r_if_eq (pc := 26) (tgt := 44) dX4_firstError_26 (by decide) (fun _ => ?_) (fun h => absurd h (by decide))
    refine r_aload_n (pc := 44) dX4_firstError_44 rfl rfl ?_
    refine sg_19 (pc := 45) rfl dX4_firstError_45 ?_
    refine r_iret (pc := 48) rfl rfl dX4_firstError_48 ?_
    exact Or.inr ⟨fun z => (by rw [show (cT (tlist tx 0 tn)).1 = false from hok] at z; cases z.1), _, k2, l2, lt2, st2, pn2, hk2, hl2, rfl, rfl, rfl⟩
end S4
