/-! ===== each call: the class's end fits the reference's ===== -/
section NX
variable {G : aw_G} {ow : Nat → Nat} {w : List va_E} {tn vn an : Nat} {R : Nat → List Int32} {vv : Nat → Nat} {sc : Nat → Int32} {ar : Nat → Nat → Int32} {fo : Nat → Int64}
theorem nx_type (hL : LI ow w tn vn an R vv sc ar fo) (x : Int32) (hx : narrow .char (.int x) = .int x) (hx2 : vp_nar .char x = x) : AM G fX7_type [.ref 0, .int x] w (NQ ow w ["java/lang/IllegalStateException"] cd1 (RC G fX8_type [.ref 12, .int x] sc ar)) := by
  obtain ⟨hB, hC, hM, hK⟩ := hL
  have hI := hK.1
  have h8 : ∀ P T : List va_E, P.length = 12 → AM G fX8_type [.ref 12, .int x] (mw P sc ar T) (qe P T (fun b sc2 ar2 => (tn = 40 ∧ sc2 = upd sc 12 1 ∧ ar2 = ar) ∨ (tn ≠ 40 ∧ b = nI (tn + 1) ∧ sc2 = upd (upd sc 12 0) 1 (nI (tn + 1)) ∧ ar2 = va_up ar 0 (upd (ar 0) tn x)))) := fun P T hP => by
    refine AM_post ?_ (am_type hP x hM.1 hM.2.1)
    rintro r w' (⟨h1, e, rfl⟩ | ⟨h1, e, rfl⟩)
    · exact ⟨_, _, _, e, rfl, Or.inl ⟨h1, rfl, rfl⟩⟩
    · exact ⟨_, _, _, e, rfl, Or.inr ⟨h1, rfl, rfl, rfl⟩⟩
  refine AM_post ?_ (ay_type hC hI x hx hx2)
  rintro r w' (⟨h1, e, rfl⟩ | ⟨h1, e, hk, hc⟩)
  · refine ⟨ow, kq_rf, Or.inr ⟨_, List.mem_cons_self .., e, _, h8, ?_⟩⟩
    rintro b sc2 ar2 (⟨h2, rfl, rfl⟩ | ⟨h2, -⟩)
    · exact ⟨upd_s _ _ _, fun z => absurd z (by decide), tn, vn, an, R, vv, MI_12 hM 1, hK, hC⟩
    · exact absurd h1 h2
  · refine ⟨ow, kp_kq hk (by decide) (by decide), Or.inl ⟨_, e, _, h8, ?_⟩⟩
    rintro b sc2 ar2 (⟨h2, -⟩ | ⟨h2, rfl, rfl, rfl⟩)
    · exact absurd h2 h1
    · have htn := hM.2.1
      exact ⟨(upd_n _ _ (by decide)).trans (upd_s _ _ _), fun _ => rfl, tn + 1, vn, an, R, vv, MI_tx hM (upd_s _ _ _) (by omega) ((upd_n _ _ (by decide)).trans (upd_n _ _ (by decide))) ((upd_n _ _ (by decide)).trans (upd_n _ _ (by decide))) rfl rfl rfl, SK_tx hK (by omega) rfl rfl rfl rfl rfl, hc⟩
theorem nx_clear (hL : LI ow w tn vn an R vv sc ar fo) : AM G fX7_clear [.ref 0] w (NQ ow w [] cd1 (RC G fX8_clear [.ref 12] sc ar)) := by
  obtain ⟨hB, hC, hM, hK⟩ := hL
  have hI := hK.1
  have h8 : ∀ P T : List va_E, P.length = 12 → AM G fX8_clear [.ref 12] (mw P sc ar T) (qe P T (fun b sc2 ar2 => b = sc 1 ∧ sc2 = upd (upd sc 12 0) 1 0 ∧ ar2 = ar)) := fun P T hP => by
    refine AM_post ?_ (am_clear hP)
    rintro r w' ⟨e, rfl⟩
    exact ⟨_, _, _, e, rfl, rfl, rfl, rfl⟩
  refine AM_post ?_ (ay_clear hC hI)
  rintro r w' ⟨e, hk, hc⟩
  refine ⟨ow, kp_kq hk (by decide) (by decide), Or.inl ⟨_, e, _, h8, ?_⟩⟩
  rintro b sc2 ar2 ⟨rfl, rfl, rfl⟩
  exact ⟨(upd_n _ _ (by decide)).trans (upd_s _ _ _), fun _ => hM.1.symm, 0, vn, an, R, vv, MI_tx hM (upd_s _ _ _) (by decide) ((upd_n _ _ (by decide)).trans (upd_n _ _ (by decide))) ((upd_n _ _ (by decide)).trans (upd_n _ _ (by decide))) rfl rfl rfl, SK_tx hK (by decide) rfl rfl rfl rfl rfl, hc⟩
theorem nx_error (hL : LI ow w tn vn an R vv sc ar fo) : AM G fX7_error [.ref 0] w (NQ ow w [] cd1 (RC G fX8_error [.ref 12] sc ar)) := by
  obtain ⟨hB, hC, hM, hK⟩ := hL
  have hI := hK.1
  have h8 : ∀ P T : List va_E, P.length = 12 → AM G fX8_error [.ref 12] (mw P sc ar T) (qe P T (fun b sc2 ar2 => b = pe (tlist (ar 0) 0 tn) 0 true (-1) [] [false] ∧ ag [12, 14, 16] [13, 15] sc ar sc2 ar2 ∧ sc2 12 = 0)) := fun P T hP => by
    refine AM_post ?_ (am_error hP hM.1 hM.2.1)
    rintro r w' ⟨e, sc2, ar2, rfl, h⟩
    exact ⟨_, _, _, e, rfl, rfl, h⟩
  refine AM_post ?_ (ay_error hC hI)
  rintro r w' ⟨e, hk, hc, -⟩
  refine ⟨ow, kp_kq hk (by decide) (by decide), Or.inl ⟨_, e, _, h8, ?_⟩⟩
  rintro b sc2 ar2 ⟨rfl, hag, h12⟩
  exact ⟨h12, fun _ => rfl, tn, vn, an, R, vv, MI_ag hM hag (by decide) (by decide), SK_ag hK hag (by decide), CP_ag hc hag (by decide) (by decide)⟩
theorem nx_typeOfText (hL : LI ow w tn vn an R vv sc ar fo) : AM G fX7_typeOfText [.ref 0] w (NQ ow w ["java/lang/IllegalStateException"] cd1 (RC G fX8_typeOfText [.ref 12] sc ar)) := by
  obtain ⟨hB, hC, hM, hK⟩ := hL
  have hI := hK.1
  refine AM_post ?_ (ax_typeOfText hC hI)
  rintro r w' (⟨h1, e, hk, hc⟩ | ⟨h1, e, ow', hk, hc⟩)
  · refine ⟨ow, kp_kq hk (by decide) (by decide), Or.inr ⟨_, List.mem_cons_self .., e, _, fun P T hP => am_typeOfText hP hM hparse_ok, ?_⟩⟩
    rintro b sc2 ar2 ⟨hag, ⟨h2, h3⟩ | ⟨h2, h3, -⟩⟩
    · exact ⟨h3, fun z => absurd z (by decide), tn, vn, an, R, vv, MI_ag hM hag (by decide) (by decide), SK_ag hK hag (by decide), CP_ag hc hag (by decide) (by decide)⟩
    · exact absurd h2 h1
  · refine ⟨ow', kp_kq hk (by decide) (by decide), Or.inl ⟨_, e, _, fun P T hP => am_typeOfText hP hM hparse_ok, ?_⟩⟩
    rintro b sc2 ar2 ⟨hag, ⟨h2, h3⟩ | ⟨h2, h3, rfl⟩⟩
    · exact absurd h1 h2
    · exact ⟨h3, fun _ => rfl, tn, vn, an, R, vv, MI_ag hM hag (by decide) (by decide), SK_ag hK hag (by decide), CP_ag hc hag (by decide) (by decide)⟩
theorem four_of {g : Int32} (h : 0 ≤ g ∧ g ≤ 3) : g = 0 ∨ g = 1 ∨ g = 2 ∨ g = 3 := by
  obtain ⟨i, hi, e⟩ := nI_of2 (x := g) (M := 3) (n := 3) (by decide) (Int32.not_lt.mpr h.1) h.2
  rcases (show i = 0 ∨ i = 1 ∨ i = 2 ∨ i = 3 by omega) with y | y | y | y
  · exact Or.inl (by rw [e, y]; rfl)
  · exact Or.inr (Or.inl (by rw [e, y]; rfl))
  · exact Or.inr (Or.inr (Or.inl (by rw [e, y]; rfl)))
  · exact Or.inr (Or.inr (Or.inr (by rw [e, y]; rfl)))
theorem nx_setType (hL : LI ow w tn vn an R vv sc ar fo) (f g : Int32) : AM G fX7_setType [.ref 0, .int f, .int g] w (NQ ow w ["java/lang/IndexOutOfBoundsException", "java/lang/IllegalArgumentException"] cdT (RC G fX8_setType [.ref 12, .int f, .int g] sc ar)) := by
  by_cases hf : 0 ≤ f ∧ f ≤ 5
  · obtain ⟨j, hj, rfl⟩ := inF_nat hf
    by_cases hg : 0 ≤ g ∧ g ≤ 3
    · obtain ⟨hB, hC, hM, hK⟩ := hL
      have hI := hK.1
      refine AM_post ?_ (ax_setType hC hI hj hg)
      rintro r w' ⟨e, hk, hc⟩
      refine ⟨ow, kp_kq hk (by decide) (by decide), Or.inl ⟨_, e, _, fun P T hP => am_setType hP hM (nI j) g, ?_⟩⟩
      rintro b sc2 ar2 (⟨h1, -⟩ | ⟨-, h1, -⟩ | ⟨-, -, hag, hv⟩)
      · exact absurd hf h1
      · exact absurd hg h1
      · rw [nI_clamp (by omega)] at hag hv
        have hI2 : SI tn vn an R vv (va_up ar 4 (upd (ar 4) j g)) := by
          obtain ⟨s1, s2, s3, s4, s5, s6, s7, s8⟩ := hI
          have et : ∀ v, tyA (va_up ar 4 (upd (ar 4) j g)) v = tyA ar v := fun v => by
            funext i
            unfold tyA
            rw [va_up_self, upd_n _ _ (by omega)]
          refine ⟨s1, s2, s3, fun i hi => ?_, fun v hv k hk => by rw [et]; exact s5 v hv k hk, fun a ha i hi => by rw [et]; exact s6 a ha i hi, s7, s8⟩
          rw [va_up_self]
          by_cases e : i = j
          · subst e; rw [upd_s]; exact four_of hg
          · rw [upd_n _ _ e]; exact s4 i hi
        exact ⟨(hag.1 12 (by decide)).trans (upd_s _ _ _), fun _ => hv.symm, tn, vn, an, R, vv, MI_ag (MI_12a (ar' := va_up ar 4 (upd (ar 4) j g)) hM 0 rfl rfl rfl) hag (by decide) (by decide), SK_ag (⟨hI2, fun a ha h7 f2 hf2 hc2 => by
          unfold canP at hc2
          rw [va_up_self, upd_n _ _ (by omega)] at hc2
          exact hK.2 a ha h7 f2 hf2 hc2⟩ : SK tn vn an R vv (va_up ar 4 (upd (ar 4) j g))) hag (by decide), CP_ag hc hag (by decide) (by decide)⟩
    · refine nx_bad hL (ax_setTypeY hL.2.1 hL.2.2.2.1 hj hg) (List.mem_cons_of_mem _ (List.mem_cons_self ..)) rfl (show (2 : Int32) ≠ 0 by decide) (fun P T hP => AM_post ?_ (am_setType hP hL.2.2.1 (nI j) g))
      rintro r w' ⟨v, sc2, ar2, e, rfl, ⟨h1, -⟩ | ⟨-, h1, h2, h3⟩ | ⟨-, h1, -⟩⟩
      · exact absurd hf h1
      · exact ⟨v, sc2, ar2, e, rfl, h2, h3⟩
      · exact absurd h1 hg
  · refine nx_bad hL (ax_setTypeX hL.2.1 hL.2.2.2.1 hf) (List.mem_cons_self ..) rfl (show (1 : Int32) ≠ 0 by decide) (fun P T hP => AM_post ?_ (am_setType hP hL.2.2.1 f g))
    rintro r w' ⟨v, sc2, ar2, e, rfl, ⟨-, h2, h3⟩ | ⟨h1, -⟩ | ⟨h1, -⟩⟩
    · exact ⟨v, sc2, ar2, e, rfl, h2, h3⟩
    · exact absurd h1 hf
    · exact absurd h1 hf
theorem SI_R9 {R' : Nat → List Int32} (hI : SI tn vn an R vv ar) (hw : ∀ its, its < 110 → R' its = [] ∨ wfr (R' its)) (h : ∀ i, 10 ≤ i → R' i = R i) : SI tn vn an R' vv ar := by
  obtain ⟨s1, s2, s3, s4, s5, s6, s7, s8⟩ := hI
  have et : ∀ v, RA R' v = RA R v := fun v => by
    funext k
    exact h _ (by omega)
  exact ⟨s1, hw, s3, s4, fun v hv k hk => by rw [et]; exact s5 v hv k hk, s6, s7, s8⟩
theorem SK_R {R' : Nat → List Int32} (hK : SK tn vn an R vv ar) (hw : ∀ its, its < 110 → R' its = [] ∨ wfr (R' its)) (h : ∀ i, 10 ≤ i → R' i = R i) : SK tn vn an R' vv ar := ⟨SI_R9 hK.1 hw h, fun a ha h7 f hf hc => by
  unfold canP at hc
  rw [h _ (by omega)] at hc
  exact hK.2 a ha h7 f hf hc⟩
theorem nx_setFormula (hL : LI ow w tn vn an R vv sc ar fo) (f : Int32) : AM G fX7_setFormula [.ref 0, .int f] w (NQ ow w ["java/lang/IndexOutOfBoundsException", "java/lang/IllegalArgumentException", "java/lang/IllegalStateException"] cdF (RC G fX8_setFormula [.ref 12, .int f] sc ar)) := by
  obtain ⟨hB, hC, hM, hK⟩ := id hL
  have hI := hK.1
  by_cases hf : 0 ≤ f ∧ f ≤ 9
  · obtain ⟨j, hj, rfl⟩ := inG_nat hf
    refine AM_post ?_ (ax_setFormula hC hI hj)
    rintro r w' (⟨h1, e, hk, hc⟩ | ⟨h1, ow', hk, hwf, ⟨ht, e, hc⟩ | ⟨ht, e, hc⟩⟩)
    · refine ⟨ow, kp_kq hk (by decide) (by decide), Or.inr ⟨_, List.mem_cons_of_mem _ (List.mem_cons_self ..), e, _, fun P T hP => am_setFormula hP hM hparse_ok j hj, ?_⟩⟩
      rintro b sc2 ar2 (⟨h2, h3, hag⟩ | ⟨h2, -⟩ | ⟨h2, -⟩)
      · exact ⟨h3, fun z => absurd z (by decide), tn, vn, an, R, vv, MI_ag hM hag (by decide) (by decide), SK_ag hK hag (by decide), CP_ag hc hag (by decide) (by decide)⟩
      · exact absurd h2 h1
      · exact absurd h2 h1
    · refine ⟨ow', kp_kq hk (by decide) (by decide), Or.inr ⟨_, List.mem_cons_of_mem _ (List.mem_cons_of_mem _ (List.mem_cons_self ..)), e, _, fun P T hP => am_setFormula hP hM hparse_ok j hj, ?_⟩⟩
      rintro b sc2 ar2 (⟨h2, -⟩ | ⟨-, -, h3, hag⟩ | ⟨-, h2, -⟩)
      · exact absurd h1 h2
      · exact ⟨h3, fun z => absurd z (by decide), tn, vn, an, R, vv, MI_ag hM hag (by decide) (by decide), SK_ag hK hag (by decide), CP_ag hc hag (by decide) (by decide)⟩
      · exact absurd h2 ht
    · refine ⟨ow', kp_kq hk (by decide) (by decide), Or.inl ⟨_, e, _, fun P T hP => am_setFormula hP hM hparse_ok j hj, ?_⟩⟩
      rintro b sc2 ar2 (⟨h2, -⟩ | ⟨-, h2, -⟩ | ⟨-, -, h3, hag, hM2, hv⟩)
      · exact absurd h1 h2
      · exact absurd ht h2
      · exact ⟨h3, fun _ => hv.symm, tn, vn, an, _, vv, hM2, SK_ag (SK_R hK (fun its hi => (hM2.2.2.2.2.2.2.1 its hi).2) (fun i hi => va_up_ne _ _ (by omega))) hag (by decide), CP_ag hc hag (by decide) (by decide)⟩
  · refine AM_post ?_ (ax_setFormulaX hC hI hf)
    rintro r w' ⟨e, rfl⟩
    refine ⟨ow, kq_rf, Or.inr ⟨_, List.mem_cons_self .., e, _, fun P T hP => am_setFormulaX hP f hf, ?_⟩⟩
    rintro b sc2 ar2 ⟨h3, hag⟩
    exact ⟨h3, fun z => absurd z (by decide), tn, vn, an, R, vv, MI_ag hM hag (by decide) (by decide), SK_ag hK hag (by decide), CP_ag hC hag (by decide) (by decide)⟩
theorem nx_dropFormula (hL : LI ow w tn vn an R vv sc ar fo) (f : Int32) : AM G fX7_dropFormula [.ref 0, .int f] w (NQ ow w ["java/lang/IndexOutOfBoundsException"] cd1 (RC G fX8_dropFormula [.ref 12, .int f] sc ar)) := by
  obtain ⟨hB, hC, hM, hK⟩ := id hL
  have hI := hK.1
  by_cases hf : 0 ≤ f ∧ f ≤ 9
  · obtain ⟨j, hj, rfl⟩ := inG_nat hf
    refine AM_post ?_ (ax_dropFormula hC hI hj)
    rintro r w' ⟨e, hk, hc⟩
    refine ⟨ow, kp_kq hk (by decide) (by decide), Or.inl ⟨_, e, _, fun P T hP => am_dropFormula hP hM (nI j), ?_⟩⟩
    rintro b sc2 ar2 (⟨h1, -⟩ | ⟨-, rfl, hv, h2⟩)
    · exact absurd hf h1
    · rw [nI_clamp (by omega)] at hv h2
      have hwf : ∀ its, its < 110 → va_up R j [] its = [] ∨ wfr (va_up R j [] its) := fun its hi => by
        by_cases e : its = j
        · subst e; rw [va_up_self]; exact Or.inl rfl
        · rw [va_up_ne _ _ e]; exact hI.2.1 its hi
      have hS := SK_R hK hwf (fun i hi => va_up_ne _ _ (by omega))
      refine ⟨upd_s _ _ _, fun _ => hv.symm, tn, vn, an, va_up R j [], vv, ?_⟩
      rcases h2 with ⟨h3, rfl⟩ | ⟨h3, rfl⟩
      · have eR : va_up R j [] = R := by rw [← h3]; exact vaup_id R j
        rw [eR] at hc hS ⊢
        exact ⟨MI_12 hM 0, hS, hc⟩
      · refine ⟨?_, SK_tx hS hI.1.1 rfl rfl rfl rfl rfl, CP_eq hc rfl rfl rfl rfl rfl rfl⟩
        obtain ⟨m1, m2, m3, m4, m5, m6, m7, m8⟩ := MI_12 hM 0
        refine ⟨m1, m2, m3, m4, m5, m6, fun its hi => ⟨?_, hwf its hi⟩, m8⟩
        obtain ⟨c1, c2, c3, c4⟩ := (m7 its hi).1
        by_cases e : its = j
        · subst e
          rw [va_up_self]
          exact ⟨hi, Nat.zero_le _, by rw [va_up_self, upd_s]; rfl, fun i x hx => by cases hx⟩
        · rw [va_up_ne _ _ e]
          exact ⟨c1, c2, by rw [va_up_self, upd_n _ _ e]; exact c3, c4⟩
  · refine nx_bad hL (ax_dropFormulaX hC hI hf) (List.mem_cons_self ..) rfl (show (1 : Int32) ≠ 0 by decide) (fun P T hP => AM_post ?_ (am_dropFormula hP hM f))
    rintro r w' ⟨v, sc2, ar2, e, rfl, ⟨-, h2, h3, -⟩ | ⟨h1, -⟩⟩
    · exact ⟨v, sc2, ar2, e, rfl, h2, h3⟩
    · exact absurd h1 hf
theorem nx_isBroken (hL : LI ow w tn vn an R vv sc ar fo) (f : Int32) : AM G fX7_isBroken [.ref 0, .int f] w (NQ ow w ["java/lang/IndexOutOfBoundsException"] cd1 (RC G fX8_isBroken [.ref 12, .int f] sc ar)) := by
  obtain ⟨hB, hC, hM, hK⟩ := id hL
  have hI := hK.1
  by_cases hf : 0 ≤ f ∧ f ≤ 9
  · obtain ⟨j, hj, rfl⟩ := inG_nat hf
    refine AM_post ?_ (ax_isBroken hC hI hj)
    rintro r w' ⟨e, hk⟩
    refine ⟨ow, kp_kq hk (by decide) (by decide), Or.inl ⟨_, e, _, fun P T hP => am_isBroken hP hM (nI j), ?_⟩⟩
    rintro b sc2 ar2 (⟨h1, -⟩ | ⟨-, hag, hv⟩)
    · exact absurd hf h1
    · rw [nI_clamp (by omega)] at hv
      exact ⟨(hag.1 12 (by decide)).trans (upd_s _ _ _), fun _ => hv.symm, tn, vn, an, R, vv, MI_ag (MI_12 hM 0) hag (by decide) (by decide), SK_ag hK hag (by decide), CP_ag (CP_r1 hC hk (by simp)) hag (by decide) (by decide)⟩
  · refine nx_bad hL (ax_isBrokenX hC hI hf) (List.mem_cons_self ..) rfl (show (1 : Int32) ≠ 0 by decide) (fun P T hP => AM_post ?_ (am_isBroken hP hM f))
    rintro r w' ⟨v, sc2, ar2, e, rfl, ⟨-, h2, h3, -⟩ | ⟨h1, -⟩⟩
    · exact ⟨v, sc2, ar2, e, rfl, h2, h3⟩
    · exact absurd h1 hf
theorem nx_versions (hL : LI ow w tn vn an R vv sc ar fo) : AM G fX7_versions [.ref 0] w (NQ ow w [] cd1 (RC G fX8_versions [.ref 12] sc ar)) := by
  obtain ⟨hB, hC, hM, hK⟩ := id hL
  have hI := hK.1
  refine nx_get hL (ay_versions hC hI) (fun P T hP => AM_post ?_ (am_versions hP))
  rintro r w' ⟨e, rfl⟩
  exact ⟨_, _, _, e, rfl, hM.2.2.1, upd_s _ _ _, [], ag_rf, by decide, by decide⟩
theorem nx_answers (hL : LI ow w tn vn an R vv sc ar fo) : AM G fX7_answers [.ref 0] w (NQ ow w [] cd1 (RC G fX8_answers [.ref 12] sc ar)) := by
  obtain ⟨hB, hC, hM, hK⟩ := id hL
  have hI := hK.1
  refine nx_get hL (ay_answers hC hI) (fun P T hP => AM_post ?_ (am_answers hP))
  rintro r w' ⟨e, rfl⟩
  exact ⟨_, _, _, e, rfl, hM.2.2.2.2.1, upd_s _ _ _, [], ag_rf, by decide, by decide⟩
theorem nx_counted (hL : LI ow w tn vn an R vv sc ar fo) : AM G fX7_counted [.ref 0] w (NQ ow w [] cd1 (RC G fX8_counted [.ref 12] sc ar)) := by
  obtain ⟨hB, hC, hM, hK⟩ := id hL
  have hI := hK.1
  refine nx_get hL (ax_counted hC hI) (fun P T hP => AM_post ?_ (am_counted hP hM))
  rintro r w' ⟨e, rfl⟩
  exact ⟨_, _, _, e, rfl, rfl, upd_s _ _ _, [], ag_rf, by decide, by decide⟩
theorem nx_typeIn (hL : LI ow w tn vn an R vv sc ar fo) (x f : Int32) : AM G fX7_typeIn [.ref 0, .int x, .int f] w (NQ ow w ["java/lang/IndexOutOfBoundsException"] cd1 (RC G fX8_typeIn [.ref 12, .int x, .int f] sc ar)) := by
  obtain ⟨hB, hC, hM, hK⟩ := id hL
  have hI := hK.1
  by_cases hb : (0 ≤ x ∧ x ≤ nI vn - 1) ∧ (0 ≤ f ∧ f ≤ 5)
  · obtain ⟨v, hv, rfl⟩ := inV_nat (by have := hI.1.2.1; omega) hb.1
    obtain ⟨j, hj, rfl⟩ := inF_nat hb.2
    refine nx_get hL (ax_typeIn hC hI hv hj) (fun P T hP => AM_post ?_ (am_typeIn hP hM v j hv hj))
    rintro r w' ⟨b, sc2, ar2, e, rfl, rfl, rfl, rfl⟩
    exact ⟨_, _, _, e, rfl, rfl, upd_s _ _ _, [], ag_rf, by decide, by decide⟩
  · exact nx_bad hL (ax_typeInX hC hI hb) (List.mem_cons_self ..) rfl (show (1 : Int32) ≠ 0 by decide) (fun P T hP => am_typeInX hP x f (by rw [hM.2.2.1]; exact hb))
theorem nx_order (hL : LI ow w tn vn an R vv sc ar fo) (x f : Int32) : AM G fX7_order [.ref 0, .int x, .int f] w (NQ ow w ["java/lang/IndexOutOfBoundsException"] cd1 (RC G fX8_order [.ref 12, .int x, .int f] sc ar)) := by
  obtain ⟨hB, hC, hM, hK⟩ := id hL
  have hI := hK.1
  by_cases hb : (0 ≤ x ∧ x ≤ nI vn - 1) ∧ 0 ≤ f
  · obtain ⟨v, hv, rfl⟩ := inV_nat (by have := hI.1.2.1; omega) hb.1
    refine nx_get hL (ax_order hC hI hv hb.2) (fun P T hP => AM_post ?_ (am_order hP hM v hv f hb.2))
    rintro r w' ⟨b, sc2, ar2, e, rfl, hag, rfl⟩
    exact ⟨_, _, _, e, rfl, rfl, (hag.1 12 (by decide)).trans (upd_s _ _ _), [22], hag, by decide, by decide⟩
  · exact nx_bad hL (ax_orderX hC hI hb) (List.mem_cons_self ..) rfl (show (1 : Int32) ≠ 0 by decide) (fun P T hP => am_orderX hP x f (by rw [hM.2.2.1]; exact hb))
theorem nx_plain (hL : LI ow w tn vn an R vv sc ar fo) (x f p : Int32) : AM G fX7_plain [.ref 0, .int x, .int f, .int p] w (NQ ow w ["java/lang/IndexOutOfBoundsException"] cd1 (RC G fX8_plain [.ref 12, .int x, .int f, .int p] sc ar)) := by
  obtain ⟨hB, hC, hM, hK⟩ := id hL
  have hI := hK.1
  by_cases hb : (0 ≤ x ∧ x ≤ nI vn - 1) ∧ (0 ≤ f ∧ f ≤ 9) ∧ 0 ≤ p
  · obtain ⟨v, hv, rfl⟩ := inV_nat (by have := hI.1.2.1; omega) hb.1
    obtain ⟨j, hj, rfl⟩ := inG_nat hb.2.1
    refine AM_post ?_ (ax_plain hC hI hv hj hb.2.2)
    rintro r w' ⟨e, rfl⟩
    refine ⟨ow, kq_rf, Or.inl ⟨_, e, _, fun P T hP => am_plain hP hM v j hv hj p hb.2.2, ?_⟩⟩
    rintro b sc2 ar2 ⟨hag, rfl⟩
    refine ⟨(hag.1 12 (by decide)).trans (upd_s _ _ _), fun _ => rfl, tn, vn, an, R, vv, MI_ag (MI_12 hM 0) hag (by decide) (by decide), SK_ag hK hag (by decide), CP_ag hC hag (by decide) (by decide)⟩
  · exact nx_bad hL (ax_plainX hC hI hb) (List.mem_cons_self ..) rfl (show (1 : Int32) ≠ 0 by decide) (fun P T hP => am_plainX hP x f p (by rw [hM.2.2.1]; exact hb))
end NX
