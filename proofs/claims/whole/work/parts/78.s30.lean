/-! ===== the class: typeOfText, setFormula, begin ===== -/
def mdO (ow : Nat → Nat) (n : Nat) : Nat → Nat := fun i => if i < n then ow i else if i = n + 3 then 1 else 0
def mdZ (ow : Nat → Nat) (w : List va_E) (row : List Int32) : aw_R → List va_E → Prop := fun r w' => r = .inl (some (.ref w.length)) ∧ kp ow (mdO ow w.length) [] w w' ∧ FP (mdO ow w.length) w' w.length row
theorem ay_made {G : aw_G} {ow : Nat → Nat} {w : List va_E} {c0 : va_E} {tx st pn : Nat → Int32} {tn p : Nat} {row : List Int32} (hS : SRC ow w c0 tx tn p (row.map stc).length (plS row).length (msk 0 row) st pn) (hr : wfr row) (hs : sgL row) (hl : (plS row).length ≤ 80) (h1 : arow st (row.map stc)) (h2 : arow pn (plS row)) : AM G fX4_made [.ref 1] w (mdZ ow w row) := by
  have hw := SRC_sW hS
  have hg := ac_made (G := G) (c0 := c0) (tx := tx) (tn := tn) (p := p) (lt := msk 0 row) (tl := w.drop 5) h1 h2 (by rw [List.length_map]; exact hr.2.2) hl
  rw [← hw] at hg
  refine AM_post ?_ hg
  rintro r w' ⟨g1, g2, e1, e2, e3, e4⟩
  have hk : kp ow (mdO ow w.length) [] w w' := by rw [e2]; exact kp_push _ (fun i hi => if_pos hi)
  have key : ∀ (j t : Nat) (e : va_E), (fmlC w.length (row.map stc).length (plS row).length (msk 0 row) g1 g2 (fun _ => 0))[j]? = some e → (if j = 3 then 1 else 0) = t → cl (mdO ow w.length) w' t (w.length + j) e := by
    intro j t e h ht
    refine ⟨?_, ?_⟩
    · unfold mdO
      rw [if_neg (by omega), ← ht]
      by_cases h3 : j = 3
      · rw [if_pos (by omega), if_pos h3]
      · rw [if_neg (by omega), if_neg h3]
    · rw [e2, List.getElem?_append_right (by omega), show w.length + j - w.length = j by omega]
      exact h
  refine ⟨e1, hk, hr, hs, hl, key 0 0 _ rfl rfl, ⟨g1, ?_, e3⟩, ⟨g2, key 2 0 _ rfl rfl, e4⟩, fun _ => 0, ?_⟩
  · rw [← List.length_map (as := row) (f := stc)]; exact key 1 0 _ rfl rfl
  · rw [← List.length_map (as := row) (f := stc)]; exact key 3 1 _ rfl rfl
def TXT (tn : Nat) (ar : Nat → Nat → Int32) : List Int32 := tlist (ar 0) 0 tn
def PE (tn : Nat) (ar : Nat → Nat → Int32) : Int32 := pe (tlist (ar 0) 0 tn) 0 true (-1) [] [false]
def xq_typeOfText (ow : Nat → Nat) (w : List va_E) (tn vn an : Nat) (R : Nat → List Int32) (vv : Nat → Nat) (ar : Nat → Nat → Int32) : aw_R → List va_E → Prop := fun r w' =>
  (PE tn ar ≠ -1 ∧ r = .inr "java/lang/IllegalStateException" ∧ kp ow ow [5] w w' ∧ CP ow w' tn vn an R vv ar) ∨ (PE tn ar = -1 ∧ r = .inl (some (.int (tyV (ar 4) (rowOf (TXT tn ar))))) ∧ ∃ ow' : Nat → Nat, kp ow ow' [1, 5] w w' ∧ CP ow' w' tn vn an R vv ar)
def xq_setFormula (ow : Nat → Nat) (w : List va_E) (tn vn an : Nat) (R : Nat → List Int32) (vv : Nat → Nat) (ar : Nat → Nat → Int32) (f : Nat) : aw_R → List va_E → Prop := fun r w' =>
  (PE tn ar ≠ -1 ∧ r = .inr "java/lang/IllegalArgumentException" ∧ kp ow ow [5] w w' ∧ CP ow w' tn vn an R vv ar) ∨ (PE tn ar = -1 ∧ ∃ ow' : Nat → Nat, kp ow ow' [1, 2, 5] w w' ∧ wfr (rowOf (TXT tn ar)) ∧
    ((¬ takes (ar 4) R f (rowOf (TXT tn ar)) ∧ r = .inr "java/lang/IllegalStateException" ∧ CP ow' w' tn vn an R vv ar) ∨
    (takes (ar 4) R f (rowOf (TXT tn ar)) ∧ r = .inl (some (.int (nI (cntU (fun g => decide (va_up R f (rowOf (TXT tn ar)) g ≠ [])) 0 10)))) ∧ CP ow' w' tn vn an (va_up R f (rowOf (TXT tn ar))) vv ar)))
theorem CP_r1 {ow ow' : Nat → Nat} {w w' : List va_E} {tn vn an : Nat} {R : Nat → List Int32} {vv : Nat → Nat} {ar : Nat → Nat → Int32} {ts : List Nat} (h : CP ow w tn vn an R vv ar) (hk : kp ow ow' ts w w') (hts : ∀ t ∈ ts, t = 1) : CP ow' w' tn vn an R vv ar :=
  CP_kp h hk (fun z => by cases hts _ z) (fun z => by cases hts _ z) (fun z => by cases hts _ z) (fun z => by cases hts _ z) (fun z => by cases hts _ z) (fun a z => by have := hts _ z; omega)
theorem SI_ok {tn vn an : Nat} {R : Nat → List Int32} {vv : Nat → Nat} {ar : Nat → Nat → Int32} (hI : SI tn vn an R vv ar) : ∀ k, k < 110 → okL (R k) := by
  intro k hk
  rcases hI.2.1 k hk with e | e
  · rw [e]; exact fun c hc => by cases hc
  · exact e.2.1
section S30
set_option maxRecDepth 100000 in
set_option maxHeartbeats 4000000 in
theorem ax_typeOfText {G : aw_G} {ow : Nat → Nat} {w : List va_E} {tn vn an : Nat} {R : Nat → List Int32} {vv : Nat → Nat} {ar : Nat → Nat → Int32} (hC : CP ow w tn vn an R vv ar) (hI : SI tn vn an R vv ar)  : AM G fX7_typeOfText [.ref 0] w (xq_typeOfText ow w tn vn an R vv ar) := by
  refine AM_of (by decide) rfl rfl (Nat.le_of_ble_eq_true rfl) ?_
  show AW G fX7_typeOfText 7 370 w 0 [some (.ref 0)] [] _
  obtain ⟨⟨hi1, hi2, hi3⟩, hiR, hiV, hiT, hiF, hiL, hiD, hiN⟩ := id hI
  obtain ⟨⟨tx, p9, k9, l9, lt9, st9, pn9, hS, hch, htx⟩, -, -, -, -, -⟩ := id hC
  have h00 := hS.1.2
  
  refine r_aload_n (pc := 0) dX7_typeOfText_0 rfl rfl ?_
  refine g_X7_10 (pc := 1) rfl h00 rfl dX7_typeOfText_1 ?_
  refine s_X7_58 (pc := 4) (kc' := 7) (ks' := 370) rfl rfl (ay_firstError hC hI) hS.2.1.2 (Nat.le_of_ble_eq_true rfl) (Nat.le_of_ble_eq_true rfl) (Nat.le_of_ble_eq_true rfl) (Nat.le_of_ble_eq_true rfl) (by exact (Nat.le_of_ble_eq_true rfl)) rfl (List.forall_mem_cons.mpr ⟨rfl, fun _ h => nomatch h⟩) rfl dX7_typeOfText_4 (fun E w9 hq _ => by obtain ⟨z, -⟩ := hq; cases z) (fun r w1 hq _ => ?_)
  obtain ⟨e9, hk1, hC1, hpz⟩ := hq
  cases e9
  obtain ⟨⟨tx1, p1, k1, l1, lt1, st1, pn1, hS1, -, -⟩, ⟨gd1, hM1⟩, -⟩ := id hC1
  have h00 := hS1.1.2
  refine r_iconst (pc := 7) (v := -1) dX7_typeOfText_7 (by decide) ?_
  refine r_icmp_eq (pc := 8) (tgt := 21) dX7_typeOfText_8 (by decide) (fun h8 => ?_) (fun h8 => ?_)
  · obtain ⟨hwf, hsg, hpl, tx2, st2, pn2, hS2, har1, har2⟩ := hpz h8
    refine r_aload_n (pc := 21) dX7_typeOfText_21 rfl rfl ?_
    refine g_X7_19 (pc := 22) rfl h00 rfl dX7_typeOfText_22 ?_
    refine r_aload_n (pc := 25) dX7_typeOfText_25 rfl rfl ?_
    refine g_X7_10 (pc := 26) rfl h00 rfl dX7_typeOfText_26 ?_
    refine s_X7_63 (pc := 29) (kc' := 1) (ks' := 6) rfl rfl (ay_made hS2 hwf hsg hpl har1 har2) hS2.2.1.2 (Nat.le_of_ble_eq_true rfl) (Nat.le_of_ble_eq_true rfl) (Nat.le_of_ble_eq_true rfl) (Nat.le_of_ble_eq_true rfl) (by exact (Nat.le_of_ble_eq_true rfl)) rfl (List.forall_mem_cons.mpr ⟨rfl, fun _ h => nomatch h⟩) rfl dX7_typeOfText_29 (fun E w9 hq _ => by obtain ⟨z, -⟩ := hq; cases z) (fun r w2 hq _ => ?_)
    obtain ⟨e9, hk2, hF2⟩ := hq
    cases e9
    have hC2 := CP_r1 hC1 hk2 (fun _ z => nomatch z)
    have hM2 := FM_kp hM1 hk2 (by simp) (by simp)
    have h00 := (cl_kp hS1.1 hk2 (by simp)).2
    refine s_X7_67 (pc := 32) (kc' := 1) (ks' := 6) rfl rfl (ac_typeOfFormula hM2 (by decide) hF2) hM2.1.2 (Nat.le_of_ble_eq_true rfl) (Nat.le_of_ble_eq_true rfl) (Nat.le_of_ble_eq_true rfl) (Nat.le_of_ble_eq_true rfl) (by exact (Nat.le_of_ble_eq_true rfl)) rfl (List.forall_mem_cons.mpr ⟨rfl, (List.forall_mem_cons.mpr ⟨rfl, fun _ h => nomatch h⟩)⟩) rfl dX7_typeOfText_32 aw_ts (aw_ks (fun w3 hk3 => ?_))
    refine r_iret (pc := 35) rfl rfl dX7_typeOfText_35 ?_
    exact Or.inr ⟨h8, rfl, _, kp_tr (kp_mono hk1 (by simp)) (kp_tr (kp_mono hk2 (by simp)) (kp_mono hk3 (by simp))), CP_r1 hC2 hk3 (by simp)⟩
  · refine t_ise (pc := 11) (text := "the text is no formula") rfl rfl (by decide) dX7_typeOfText_11 dX7_typeOfText_14 dX7_typeOfText_15 dX7_typeOfText_17 dX7_typeOfText_20 (Nat.le_of_ble_eq_true rfl) (Nat.le_of_ble_eq_true rfl) (Nat.le_of_ble_eq_true rfl) (Nat.le_of_ble_eq_true rfl) ?_
    exact Or.inl ⟨h8, rfl, hk1, hC1⟩

set_option maxRecDepth 100000 in
set_option maxHeartbeats 4000000 in
theorem ax_setFormula {G : aw_G} {ow : Nat → Nat} {w : List va_E} {tn vn an : Nat} {R : Nat → List Int32} {vv : Nat → Nat} {ar : Nat → Nat → Int32} (hC : CP ow w tn vn an R vv ar) (hI : SI tn vn an R vv ar) {f : Nat} (hf : f < 10) : AM G fX7_setFormula [.ref 0, .int (nI f)] w (xq_setFormula ow w tn vn an R vv ar f) := by
  refine AM_of (by decide) rfl rfl (Nat.le_of_ble_eq_true rfl) ?_
  show AW G fX7_setFormula 10 388 w 0 [some (.ref 0), some (.int (nI f)), none] [] _
  obtain ⟨⟨hi1, hi2, hi3⟩, hiR, hiV, hiT, hiF, hiL, hiD, hiN⟩ := id hI
  obtain ⟨⟨tx, p9, k9, l9, lt9, st9, pn9, hS, hch, htx⟩, -, -, -, -, -⟩ := id hC
  have h00 := hS.1.2
  
  refine r_iload_n (pc := 0) dX7_setFormula_0 rfl rfl ?_
  refine s_X7_87 (pc := 1) (kc' := 9) (ks' := 382) rfl rfl (ac_requireFormula hf)  (Nat.le_of_ble_eq_true rfl) (Nat.le_of_ble_eq_true rfl) (Nat.le_of_ble_eq_true rfl) (Nat.le_of_ble_eq_true rfl) (by exact (Nat.le_of_ble_eq_true rfl)) rfl (List.forall_mem_cons.mpr ⟨rfl, fun _ h => nomatch h⟩) rfl dX7_setFormula_1 aw_kt (aw_kv ?_)
  refine r_aload_n (pc := 4) dX7_setFormula_4 rfl rfl ?_
  refine g_X7_10 (pc := 5) rfl h00 rfl dX7_setFormula_5 ?_
  refine s_X7_58 (pc := 8) (kc' := 9) (ks' := 382) rfl rfl (ay_firstError hC hI) hS.2.1.2 (Nat.le_of_ble_eq_true rfl) (Nat.le_of_ble_eq_true rfl) (Nat.le_of_ble_eq_true rfl) (Nat.le_of_ble_eq_true rfl) (by exact (Nat.le_of_ble_eq_true rfl)) rfl (List.forall_mem_cons.mpr ⟨rfl, fun _ h => nomatch h⟩) rfl dX7_setFormula_8 (fun E w9 hq _ => by obtain ⟨z, -⟩ := hq; cases z) (fun r w1 hq _ => ?_)
  obtain ⟨e9, hk1, hC1, hpz⟩ := hq
  cases e9
  obtain ⟨⟨tx1, p1, k1, l1, lt1, st1, pn1, hS1, -, -⟩, ⟨gd1, hM1⟩, -⟩ := id hC1
  have h00 := hS1.1.2
  refine r_iconst (pc := 11) (v := -1) dX7_setFormula_11 (by decide) ?_
  refine r_icmp_eq (pc := 12) (tgt := 25) dX7_setFormula_12 (by decide) (fun h12 => ?_) (fun h12 => ?_)
  · obtain ⟨hwf, hsg, hpl, tx2, st2, pn2, hS2, har1, har2⟩ := hpz h12
    refine r_aload_n (pc := 25) dX7_setFormula_25 rfl rfl ?_
    refine g_X7_10 (pc := 26) rfl h00 rfl dX7_setFormula_26 ?_
    refine s_X7_63 (pc := 29) (kc' := 3) (ks' := 18) rfl rfl (ay_made hS2 hwf hsg hpl har1 har2) hS2.2.1.2 (Nat.le_of_ble_eq_true rfl) (Nat.le_of_ble_eq_true rfl) (Nat.le_of_ble_eq_true rfl) (Nat.le_of_ble_eq_true rfl) (by exact (Nat.le_of_ble_eq_true rfl)) rfl (List.forall_mem_cons.mpr ⟨rfl, fun _ h => nomatch h⟩) rfl dX7_setFormula_29 (fun E w9 hq _ => by obtain ⟨z, -⟩ := hq; cases z) (fun r w2 hq _ => ?_)
    obtain ⟨e9, hk2, hF2⟩ := hq
    cases e9
    have hC2 := CP_r1 hC1 hk2 (fun _ z => nomatch z)
    have hM2 := FM_kp hM1 hk2 (by simp) (by simp)
    have h00 := (cl_kp hS1.1 hk2 (by simp)).2
    refine r_astore_n (pc := 32) dX7_setFormula_32 rfl (Nat.le_of_ble_eq_true rfl) rfl ?_
    refine r_aload_n (pc := 33) dX7_setFormula_33 rfl rfl ?_
    refine g_X7_19 (pc := 34) rfl h00 rfl dX7_setFormula_34 ?_
    refine r_iload_n (pc := 37) dX7_setFormula_37 rfl rfl ?_
    refine r_aload_n (pc := 38) dX7_setFormula_38 rfl rfl ?_
    refine s_X7_90 (pc := 39) (kc' := 3) (ks' := 18) rfl rfl (ac_wouldBreak hM2 (by decide) hf hF2) hM2.1.2 (Nat.le_of_ble_eq_true rfl) (Nat.le_of_ble_eq_true rfl) (Nat.le_of_ble_eq_true rfl) (Nat.le_of_ble_eq_true rfl) (by exact (Nat.le_of_ble_eq_true rfl)) rfl (List.forall_mem_cons.mpr ⟨rfl, (List.forall_mem_cons.mpr ⟨rfl, (List.forall_mem_cons.mpr ⟨rfl, fun _ h => nomatch h⟩)⟩)⟩) rfl dX7_setFormula_39 aw_ts (aw_ks (fun w3 hk3 => ?_))
    have hC3 := CP_r1 hC2 hk3 (by simp)
    have hM3 := FM_kp hM2 hk3 (by decide) (by decide)
    have hF3 := FP_kp hF2 hk3 (by decide)
    have h00 := (cl_kp ⟨(cl_kp hS1.1 hk2 (by simp)).1, h00⟩ hk3 (by decide)).2
    have hkA := kp_tr (kp_mono (ts' := [1, 2, 5]) hk1 (by simp)) (kp_tr (kp_mono hk2 (by simp)) (kp_mono hk3 (by simp)))
    refine r_if_eq (pc := 42) (tgt := 55) dX7_setFormula_42 (by decide) (fun h42 => ?_) (fun h42 => ?_)
    · refine r_aload_n (pc := 55) dX7_setFormula_55 rfl rfl ?_
      refine g_X7_19 (pc := 56) rfl h00 rfl dX7_setFormula_56 ?_
      refine r_iload_n (pc := 59) dX7_setFormula_59 rfl rfl ?_
      refine r_aload_n (pc := 60) dX7_setFormula_60 rfl rfl ?_
      refine s_X7_96 (pc := 61) (kc' := 3) (ks' := 18) rfl rfl (ac_wouldCircle hM3 hf hF3 (fun k hk => SI_ok hI k (by omega))) hM3.1.2 (Nat.le_of_ble_eq_true rfl) (Nat.le_of_ble_eq_true rfl) (Nat.le_of_ble_eq_true rfl) (Nat.le_of_ble_eq_true rfl) (by exact (Nat.le_of_ble_eq_true rfl)) rfl (List.forall_mem_cons.mpr ⟨rfl, (List.forall_mem_cons.mpr ⟨rfl, (List.forall_mem_cons.mpr ⟨rfl, fun _ h => nomatch h⟩)⟩)⟩) rfl dX7_setFormula_61 aw_kt (aw_kq ?_)
      refine r_if_eq (pc := 64) (tgt := 77) dX7_setFormula_64 (by decide) (fun h64 => ?_) (fun h64 => ?_)
      · refine r_aload_n (pc := 77) dX7_setFormula_77 rfl rfl ?_
        refine g_X7_19 (pc := 78) rfl h00 rfl dX7_setFormula_78 ?_
        refine r_iload_n (pc := 81) dX7_setFormula_81 rfl rfl ?_
        refine r_aload_n (pc := 82) dX7_setFormula_82 rfl rfl ?_
        refine s_X7_101 (pc := 83) (kc' := 3) (ks' := 18) rfl rfl (ac_giveFormula hM3 hf hF3.2.2.2.1.2) hM3.1.2 (Nat.le_of_ble_eq_true rfl) (Nat.le_of_ble_eq_true rfl) (Nat.le_of_ble_eq_true rfl) (Nat.le_of_ble_eq_true rfl) (by exact (Nat.le_of_ble_eq_true rfl)) rfl (List.forall_mem_cons.mpr ⟨rfl, (List.forall_mem_cons.mpr ⟨rfl, (List.forall_mem_cons.mpr ⟨rfl, fun _ h => nomatch h⟩)⟩)⟩) rfl dX7_setFormula_83 aw_kt (aw_kv ?_)
        have hk4 : kp (mdO ow w1.length) (mdO ow w1.length) [2] w3 _ := kp_set (e := .inl (5, 10, .inr (.inr (.inr (.inr (va_up gd1 f (some w1.length))))))) hM3.2.2.1.1 (List.mem_singleton.mpr rfl) (by decide)
        have hM4 := FM_give hM3 (by decide) (by decide) (k := f) (x := some w1.length) (row := rowOf (TXT tn ar)) hF3
        have hC4 := CP_dr hC3 hk4 (fun t z => Or.inr (Or.inl (List.mem_singleton.mp z))) hM4 (fun i hi => va_up_ne _ _ (by omega)) (fun i _ => rfl)
        rw [vaup_id] at hC4
        have h00 := (cl_kp ⟨(cl_kp (cl_kp hS1.1 hk2 (by simp)) hk3 (by decide)).1, h00⟩ hk4 (by decide)).2
        refine r_aload_n (pc := 86) dX7_setFormula_86 rfl rfl ?_
        refine g_X7_19 (pc := 87) rfl h00 rfl dX7_setFormula_87 ?_
        refine s_X7_105 (pc := 90) (kc' := 3) (ks' := 18) rfl rfl (ac_countFormulas hM4) hM4.1.2 (Nat.le_of_ble_eq_true rfl) (Nat.le_of_ble_eq_true rfl) (Nat.le_of_ble_eq_true rfl) (Nat.le_of_ble_eq_true rfl) (by exact (Nat.le_of_ble_eq_true rfl)) rfl (List.forall_mem_cons.mpr ⟨rfl, fun _ h => nomatch h⟩) rfl dX7_setFormula_90 aw_kt (aw_kq ?_)
        refine r_iret (pc := 93) rfl rfl dX7_setFormula_93 ?_
        have ht : takes (ar 4) R f (rowOf (TXT tn ar)) := ⟨Classical.not_not.mp (fun z => absurd (decide_eq_true z) (by rw [show decide (tyV (ar 4) (rowOf (TXT tn ar)) ≠ dueF (ar 4) f) = false from bi_eq.mp h42]; decide)), of_decide_eq_false (bi_eq.mp h64)⟩
        exact Or.inr ⟨h12, _, kp_tr hkA (kp_mono hk4 (by simp)), hwf, Or.inr ⟨ht, rfl, hC4⟩⟩
      · refine t_ise (pc := 67) (text := "a field would hang on itself") rfl rfl (by decide) dX7_setFormula_67 dX7_setFormula_70 dX7_setFormula_71 dX7_setFormula_73 dX7_setFormula_76 (Nat.le_of_ble_eq_true rfl) (Nat.le_of_ble_eq_true rfl) (Nat.le_of_ble_eq_true rfl) (Nat.le_of_ble_eq_true rfl) ?_
        exact Or.inr ⟨h12, _, hkA, hwf, Or.inl ⟨fun z => z.2 (of_decide_eq_true (bi_ne.mp h64)), rfl, hC3⟩⟩
    · refine t_ise (pc := 45) (text := "the formula would be broken") rfl rfl (by decide) dX7_setFormula_45 dX7_setFormula_48 dX7_setFormula_49 dX7_setFormula_51 dX7_setFormula_54 (Nat.le_of_ble_eq_true rfl) (Nat.le_of_ble_eq_true rfl) (Nat.le_of_ble_eq_true rfl) (Nat.le_of_ble_eq_true rfl) ?_
      exact Or.inr ⟨h12, _, hkA, hwf, Or.inl ⟨fun z => absurd z.1 (of_decide_eq_true (bi_ne.mp h42)), rfl, hC3⟩⟩
  · refine t_iae (pc := 15) (text := "the text is no formula") rfl rfl (by decide) dX7_setFormula_15 dX7_setFormula_18 dX7_setFormula_19 dX7_setFormula_21 dX7_setFormula_24 (Nat.le_of_ble_eq_true rfl) (Nat.le_of_ble_eq_true rfl) (Nat.le_of_ble_eq_true rfl) (Nat.le_of_ble_eq_true rfl) ?_
    exact Or.inl ⟨h12, rfl, hk1, hC1⟩

def bgO (ow : Nat → Nat) (n an : Nat) : Nat → Nat := fun i => if i < n then ow i else 10 + an
def bgL (n v fa : Nat) : List va_E := [.inr (0, [.int (nI v), .ref fa, .ref (n + 1), .int 0, .int 0]), .inr (5, [.ref (n + 2), .int 0]), .inl (0, 6, .inl (fun _ => 0))]
theorem CP_beg {ow : Nat → Nat} {w : List va_E} {tn vn an : Nat} {R : Nat → List Int32} {vv : Nat → Nat} {ar : Nat → Nat → Int32} (hC : CP ow w tn vn an R vv ar) (hI : SI tn vn an R vv ar) (han : an < 20) (hvn : 0 < vn) {fa : Nat} (hq : PBq w (vn - 1) fa) {bg : Nat → Option Nat} (hbg : w[11]? = some (.inl (6, 20, .inr (.inr (.inr (.inr bg)))))) {w' : List va_E} (hw' : w' = ((w ++ bgL w.length (vn - 1) fa).set 11 (.inl (6, 20, .inr (.inr (.inr (.inr (va_up bg an (some w.length)))))))).set 0 (c0W vn (an + 1))) : kp ow (bgO ow w.length an) [4, 5] w w' ∧ CP (bgO ow w.length an) w' tn vn (an + 1) R (va_up vv an (vn - 1)) ar := by
  obtain ⟨⟨tx, p, k, l, lt, st, pn, hS, hc, hx⟩, ⟨gd, hM⟩, ⟨pv, hp⟩, ⟨bg2, hb⟩, hV, hA⟩ := hC
  have e9 := hb.2
  rw [hbg] at e9
  cases e9
  have h11 : 11 < w.length := lt_of_at hbg
  have hk0 : kp ow (bgO ow w.length an) [] w (w ++ bgL w.length (vn - 1) fa) := kp_push _ (fun i hi => if_pos hi)
  have hk1 : kp (bgO ow w.length an) (bgO ow w.length an) [4] (w ++ bgL w.length (vn - 1) fa) _ := kp_set (e := .inl (6, 20, .inr (.inr (.inr (.inr (va_up bg an (some w.length))))))) (cl_kp hb hk0 (by simp)).1 (List.mem_singleton.mpr rfl) (by decide)
  have hc0 := cl_kp (cl_kp hS.1 hk0 (by simp)) hk1 (by decide)
  have hk2 : kp (bgO ow w.length an) (bgO ow w.length an) [5] ((w ++ bgL w.length (vn - 1) fa).set 11 (.inl (6, 20, .inr (.inr (.inr (.inr (va_up bg an (some w.length)))))))) w' := by rw [hw']; exact kp_set (e := c0W vn (an + 1)) hc0.1 (List.mem_singleton.mpr rfl) (by decide)
  have hk : kp ow (bgO ow w.length an) [4, 5] w w' := kp_tr (kp_mono hk0 (by simp)) (kp_tr (kp_mono hk1 (by simp)) (kp_mono hk2 (by simp)))
  have h0 : cl (bgO ow w.length an) w' 5 0 (c0W vn (an + 1)) := by rw [hw']; exact cl_set hc0
  have h11' : cl (bgO ow w.length an) w' 4 11 (.inl (6, 20, .inr (.inr (.inr (.inr (va_up bg an (some w.length))))))) := by
    rw [hw']
    exact cl_ne (cl_set (cl_kp hb hk0 (by simp))) (by decide)
  have key : ∀ (j : Nat) (e : va_E), (bgL w.length (vn - 1) fa)[j]? = some e → cl (bgO ow w.length an) w' (10 + an) (w.length + j) e := by
    intro j e h
    refine ⟨if_neg (by omega), ?_⟩
    rw [hw', List.getElem?_set_ne (by omega), List.getElem?_set_ne (by omega), List.getElem?_append_right (by omega), show w.length + j - w.length = j by omega]
    exact h
  have hmv : ∀ (i t : Nat) (e : va_E), t ≠ 4 → i ≠ 0 → cl ow w t i e → cl (bgO ow w.length an) w' t i e := by
    intro i t e h4 hi h
    have g1 := cl_kp (cl_kp h hk0 (by simp)) hk1 (by simpa using h4)
    rw [hw']
    exact cl_ne g1 (fun z => hi z.symm)
  have hn0 : (0 : Nat) ∉ [4, 5] := by decide
  refine ⟨hk, ⟨tx, p, k, l, lt, st, pn, ⟨h0, hmv 1 5 _ (by decide) (by decide) hS.2.1, hmv 2 5 _ (by decide) (by decide) hS.2.2.1, hmv 3 5 _ (by decide) (by decide) hS.2.2.2.1, hmv 4 5 _ (by decide) (by decide) hS.2.2.2.2⟩, hc, hx⟩, ⟨gd, FM_kp hM hk (by decide) hn0⟩, ⟨pv, cl_kp hp hk (by decide)⟩, ⟨_, h11'⟩, fun v hv => ?_, fun a ha => ?_⟩
  · obtain ⟨a, h6, h7⟩ := hV v hv
    exact ⟨a, PBq_kp h6 hp hk (by decide), VF_kp h7 hk hn0⟩
  · by_cases e : a = an
    · subst e
      obtain ⟨z1, z2, z3⟩ := hI.2.2.2.2.2.2.2 a (Nat.le_refl _) han
      refine ⟨w.length, fa, ⟨_, h11'.2, va_up_self ..⟩, by rw [va_up_self]; exact PBq_kp hq hp hk (by decide), ?_⟩
      rw [va_up_self, z1, z2]
      exact ⟨key 0 _ rfl, 0, fun _ => 0, key 1 _ rfl, key 2 _ rfl, fun j hj => (z3 j hj).1.symm, fun j hj => by rw [bitI_0 (by omega)]; exact (z3 j hj).2⟩
    · obtain ⟨b, fb, ⟨bg3, q1, q2⟩, h7, h8⟩ := hA a (by omega)
      rw [hbg] at q1
      cases q1
      refine ⟨b, fb, ⟨_, h11'.2, by rw [va_up_ne _ _ e]; exact q2⟩, by rw [va_up_ne _ _ e]; exact PBq_kp h7 hp hk (by decide), ?_⟩
      rw [va_up_ne _ _ e]
      exact AN_kp h8 hk (fun z => by
        rcases List.mem_cons.mp z with h4 | h4
        · omega
        · have := List.mem_singleton.mp h4; omega)
def xq_begin (ow : Nat → Nat) (w : List va_E) (tn vn an : Nat) (R : Nat → List Int32) (vv : Nat → Nat) (ar : Nat → Nat → Int32) : aw_R → List va_E → Prop := fun r w' => ((vn = 0 ∨ an = 20) ∧ r = .inr "java/lang/IllegalStateException" ∧ w' = w) ∨ (¬ (vn = 0 ∨ an = 20) ∧ r = .inl (some (.int (nI an))) ∧ ∃ ow' : Nat → Nat, kp ow ow' [4, 5] w w' ∧ CP ow' w' tn vn (an + 1) R (va_up vv an (vn - 1)) ar)
set_option maxRecDepth 100000 in
set_option maxHeartbeats 4000000 in
theorem ax_begin {G : aw_G} {ow : Nat → Nat} {w : List va_E} {tn vn an : Nat} {R : Nat → List Int32} {vv : Nat → Nat} {ar : Nat → Nat → Int32} (hC : CP ow w tn vn an R vv ar) (hI : SI tn vn an R vv ar)  : AM G fX7_begin [.ref 0] w (xq_begin ow w tn vn an R vv ar) := by
  refine AM_of (by decide) rfl rfl (Nat.le_of_ble_eq_true rfl) ?_
  show AW G fX7_begin 5 25 w 0 [some (.ref 0), none] [] _
  obtain ⟨⟨hi1, hi2, hi3⟩, hiR, hiV, hiT, hiF, hiL, hiD, hiN⟩ := id hI
  obtain ⟨⟨tx, p9, k9, l9, lt9, st9, pn9, hS, hch, htx⟩, -, -, -, -, -⟩ := id hC
  have h00 := hS.1.2
  
  refine r_aload_n (pc := 0) dX7_begin_0 rfl rfl ?_
  refine g_X7_27 (pc := 1) rfl h00 rfl dX7_begin_1 ?_
  refine r_if_eq (pc := 4) (tgt := 16) dX7_begin_4 (by decide) (fun h4 => ?_) (fun h4 => ?_)
  · refine t_ise (pc := 16) (text := "no version, or 20 answers") rfl rfl (by decide) dX7_begin_16 dX7_begin_19 dX7_begin_20 dX7_begin_22 dX7_begin_25 (Nat.le_of_ble_eq_true rfl) (Nat.le_of_ble_eq_true rfl) (Nat.le_of_ble_eq_true rfl) (Nat.le_of_ble_eq_true rfl) ?_
    exact Or.inl ⟨Or.inl ((nI_eq (a := vn) (b := 0) (by omega) (by decide)).mp h4), rfl, rfl⟩
  · refine r_aload_n (pc := 7) dX7_begin_7 rfl rfl ?_
    refine g_X7_37 (pc := 8) rfl h00 rfl dX7_begin_8 ?_
    refine r_bipush (pc := 11) (v := 20) dX7_begin_11 (by decide) ?_
    refine r_icmp_lt (pc := 13) (tgt := 26) dX7_begin_13 (by decide) (fun h13 => ?_) (fun h13 => ?_)
    · have han : an < 20 := (nI_ltI (a := an) (b := 20) (by omega) (by decide)).mp h13
      have hvn0 : 0 < vn := Nat.pos_of_ne_zero (fun z => h4 (by rw [z]; rfl))
      obtain ⟨fa, hq, -⟩ := hC.2.2.2.2.1 (vn - 1) (by omega)
      obtain ⟨pv9, hpp⟩ := hC.2.2.1
      obtain ⟨bg, hbg⟩ := hC.2.2.2.1
      refine r_aload_n (pc := 26) dX7_begin_26 rfl rfl ?_
      refine g_X7_27 (pc := 27) rfl h00 rfl dX7_begin_27 ?_
      refine r_iconst (pc := 30) (v := 1) dX7_begin_30 (by decide) ?_
      refine r_isub (pc := 31) dX7_begin_31 ?_
      rw [show nI vn - 1 = nI (vn - 1) from pk_sub (b := 1) hvn0]
      refine r_istore_n (pc := 32) dX7_begin_32 rfl (Nat.le_of_ble_eq_true rfl) rfl ?_
      refine r_aload_n (pc := 33) dX7_begin_33 rfl rfl ?_
      refine g_X7_33 (pc := 34) rfl h00 rfl dX7_begin_34 ?_
      refine r_aload_n (pc := 37) dX7_begin_37 rfl rfl ?_
      refine g_X7_37 (pc := 38) rfl h00 rfl dX7_begin_38 ?_
      refine n_X0 (pc := 41) (index := 31) (kc' := 4) (ks' := 20) tw_143 (Nat.le_of_ble_eq_true rfl) (Nat.le_of_ble_eq_true rfl) dX7_begin_41 ?_
      have hp1 : kp ow ow [] w (w ++ [.inr (0, [.int 0, .null, .null, .int 0, .int 0])]) := kp_push _ (fun _ _ => rfl)
      have h01 := (cl_kp hS.1 hp1 (by simp)).2
      have hq1 := PBq_kp hq hpp hp1 (by simp)
      refine r_dup (pc := 44) dX7_begin_44 rfl ?_
      refine r_iload_n (pc := 45) dX7_begin_45 rfl rfl ?_
      refine r_aload_n (pc := 46) dX7_begin_46 rfl rfl ?_
      refine r_iload_n (pc := 47) dX7_begin_47 rfl rfl ?_
      refine s_X7_130 (pc := 48) (kc' := 3) (ks' := 14) rfl rfl (ax_requireVersion h01 hi2 (v := vn - 1) (by omega) hq1) h01 (Nat.le_of_ble_eq_true rfl) (Nat.le_of_ble_eq_true rfl) (Nat.le_of_ble_eq_true rfl) (Nat.le_of_ble_eq_true rfl) (by exact (Nat.le_of_ble_eq_true rfl)) rfl (List.forall_mem_cons.mpr ⟨rfl, (List.forall_mem_cons.mpr ⟨rfl, fun _ h => nomatch h⟩)⟩) rfl dX7_begin_48 aw_kt (aw_kq ?_)
      refine s_X7_151 (pc := 51) (kc' := 1) (ks' := 6) rfl rfl ac0_init  (Nat.le_of_ble_eq_true rfl) (Nat.le_of_ble_eq_true rfl) (Nat.le_of_ble_eq_true rfl) (Nat.le_of_ble_eq_true rfl) (by exact (Nat.le_of_ble_eq_true rfl)) rfl (List.forall_mem_cons.mpr ⟨rfl, (List.forall_mem_cons.mpr ⟨rfl, (List.forall_mem_cons.mpr ⟨rfl, fun _ h => nomatch h⟩)⟩)⟩) rfl dX7_begin_51 aw_kt (aw_kv ?_)
      rw [show w ++ [(.inr (0, [.int (nI (vn - 1)), .ref fa, .ref (w.length + 1), .int 0, .int 0]) : va_E), .inr (5, [.ref (w.length + 2), .int 0]), .inl (0, 6, .inl (fun _ => 0))] = w ++ bgL w.length (vn - 1) fa from rfl]
      have hp2 : kp ow ow [] w (w ++ bgL w.length (vn - 1) fa) := kp_push _ (fun _ _ => rfl)
      have h02 := (cl_kp hS.1 hp2 (by simp)).2
      have h11 := (cl_kp hbg hp2 (by simp)).2
      have hnw : (w ++ bgL w.length (vn - 1) fa)[w.length]? = some (.inr (0, [.int (nI (vn - 1)), .ref fa, .ref (w.length + 1), .int 0, .int 0])) := by rw [List.getElem?_append_right (Nat.le_refl _), Nat.sub_self]; rfl
      refine r_aastore (pc := 54) (t := 6) (ci := 0) (fun _ => rfl) h11 hnw rfl (vp_in_nI (n := an) han (Nat.le_of_ble_eq_true rfl)) dX7_begin_54 (by rw [nI_clamp (by omega)]) ?_
      have h03 : ((w ++ bgL w.length (vn - 1) fa).set 11 (.inl (6, 20, .inr (.inr (.inr (.inr (va_up bg an (some w.length))))))))[0]? = some (c0W vn an) := by rw [List.getElem?_set_ne (by decide)]; exact h02
      refine r_aload_n (pc := 55) dX7_begin_55 rfl rfl ?_
      refine r_dup (pc := 56) dX7_begin_56 rfl ?_
      refine g_X7_37 (pc := 57) rfl h03 rfl dX7_begin_57 ?_
      refine r_iconst (pc := 60) (v := 1) dX7_begin_60 (by decide) ?_
      refine r_iadd (pc := 61) dX7_begin_61 ?_
      rw [nI_1]
      refine p_X7_37 (pc := 62) rfl h03 (Nat.le_of_ble_eq_true rfl) dX7_begin_62 rfl ?_
      have hfin := CP_beg hC hI han hvn0 hq hbg.2 rfl
      have h04 := hfin.2.1.choose_spec.choose_spec.choose_spec.choose_spec.choose_spec.choose_spec.choose_spec.1.1.2
      refine r_aload_n (pc := 65) dX7_begin_65 rfl rfl ?_
      refine g_X7_37 (pc := 66) rfl h04 rfl dX7_begin_66 ?_
      refine r_iconst (pc := 69) (v := 1) dX7_begin_69 (by decide) ?_
      refine r_isub (pc := 70) dX7_begin_70 ?_
      
      refine r_iret (pc := 71) rfl rfl dX7_begin_71 ?_
      refine Or.inr ⟨fun z => by omega, ?_, _, hfin⟩
      rw [show nI (an + 1) - 1 = nI an from nI_pred an]
    · refine t_ise (pc := 16) (text := "no version, or 20 answers") rfl rfl (by decide) dX7_begin_16 dX7_begin_19 dX7_begin_20 dX7_begin_22 dX7_begin_25 (Nat.le_of_ble_eq_true rfl) (Nat.le_of_ble_eq_true rfl) (Nat.le_of_ble_eq_true rfl) (Nat.le_of_ble_eq_true rfl) ?_
      exact Or.inl ⟨Or.inr (Nat.le_antisymm hi3 (Nat.le_of_not_lt (fun z => h13 (nI_lt (a := an) (b := 20) z (by decide))))), rfl, rfl⟩

end S30
