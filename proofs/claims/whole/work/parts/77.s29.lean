/-! ===== the class: its calls on the text and the draft ===== -/
theorem tlist_cong {f g : Nat → Int32} : ∀ (m k : Nat), (∀ j, k ≤ j → j < k + m → f j = g j) → tlist f k m = tlist g k m
  | 0, _, _ => rfl
  | m + 1, k, h => by
    rw [tlist, tlist, h k (Nat.le_refl _) (by omega), tlist_cong m (k + 1) (fun j h1 h2 => h j (by omega) (by omega))]
/-- the source has changed, and nothing else -/
theorem CP_src {ow : Nat → Nat} {w w' : List va_E} {tn tn' vn an : Nat} {R : Nat → List Int32} {vv : Nat → Nat} {ar : Nat → Nat → Int32} (h : CP ow w tn vn an R vv ar) (hk : kp ow ow [5] w w') {tx : Nat → Int32} {p k l : Nat} {lt : Int32} {st pn f0 : Nat → Int32} (hS : SRC ow w' (c0W vn an) tx tn' p k l lt st pn) (hc : chOK tx tn') (hx : ∀ j, j < tn' → tx j = f0 j) : CP ow w' tn' vn an R vv (va_up ar 0 f0) := by
  obtain ⟨-, ⟨gd, hM⟩, ⟨pv, hp⟩, ⟨bg, hb⟩, hV, hA⟩ := h
  refine ⟨⟨tx, p, k, l, lt, st, pn, hS, hc, fun j hj => by rw [va_up_self]; exact hx j hj⟩, ⟨gd, by rw [va_up_ne _ _ (by decide)]; exact FM_kp hM hk (by decide) (by decide)⟩, ⟨pv, cl_kp hp hk (by decide)⟩, ⟨bg, cl_kp hb hk (by decide)⟩, fun v hv => ?_, fun a ha => ?_⟩
  · obtain ⟨a, h6, h7⟩ := hV v hv
    exact ⟨a, PBq_kp h6 hp hk (by decide), by unfold tyA; rw [va_up_ne _ _ (by decide)]; exact VF_kp h7 hk (by decide)⟩
  · obtain ⟨b, fa, h6, h7, h8⟩ := hA a ha
    refine ⟨b, fa, ABq_kp h6 hb hk (by decide), PBq_kp h7 hp hk (by decide), ?_⟩
    rw [va_up_ne _ _ (by decide), va_up_ne _ _ (by decide), va_up_ne _ _ (by decide), va_up_ne _ _ (by decide)]
    exact AN_kp h8 hk (fun z => by have := List.mem_singleton.mp z; omega)
theorem vaup_id {α : Type} (f : Nat → α) (k : Nat) : va_up f k (f k) = f := by
  funext j
  by_cases h : j = k
  · subst h; rw [va_up_self]
  · rw [va_up_ne _ _ h]
/-- the draft has changed, and nothing else -/
theorem CP_dr {ow ow' : Nat → Nat} {w w' : List va_E} {ts : List Nat} {tn vn an : Nat} {R R' : Nat → List Int32} {vv : Nat → Nat} {ar : Nat → Nat → Int32} {ty : Nat → Int32} {gd : Nat → Option Nat} (h : CP ow w tn vn an R vv ar) (hk : kp ow ow' ts w w') (hts : ∀ t ∈ ts, t = 1 ∨ t = 2 ∨ t = 9) (hM : FM ow' w' 2 5 8 9 6 7 ty R' gd) (hR : ∀ i, 10 ≤ i → R' i = R i) (hty : ∀ i, 6 ≤ i → ty i = ar 4 i) : CP ow' w' tn vn an R' vv (va_up ar 4 ty) := by
  obtain ⟨⟨tx, p, k, l, lt, st, pn, hS, hc, hx⟩, -, ⟨pv, hp⟩, ⟨bg, hb⟩, hV, hA⟩ := h
  have hn : ∀ t, t ≠ 1 → t ≠ 2 → t ≠ 9 → t ∉ ts := fun t h1 h2 h9 z => by rcases hts t z with y | y | y <;> omega
  refine ⟨⟨tx, p, k, l, lt, st, pn, SRC_kp hS hk (hn 5 (by decide) (by decide) (by decide)), hc, fun j hj => by rw [va_up_ne _ _ (by decide)]; exact hx j hj⟩, ⟨gd, by rw [va_up_self]; exact hM⟩, ⟨pv, cl_kp hp hk (hn 3 (by decide) (by decide) (by decide))⟩, ⟨bg, cl_kp hb hk (hn 4 (by decide) (by decide) (by decide))⟩, fun v hv => ?_, fun a ha => ?_⟩
  · obtain ⟨a, h6, h7⟩ := hV v hv
    have e1 : RA R' v = RA R v := by funext k; exact hR _ (by omega)
    have e2 : tyA (va_up ar 4 ty) v = tyA ar v := by funext j; unfold tyA; rw [va_up_self]; exact hty _ (by omega)
    exact ⟨a, PBq_kp h6 hp hk (hn 3 (by decide) (by decide) (by decide)), by rw [e1, e2]; exact VF_kp h7 hk (hn 0 (by decide) (by decide) (by decide))⟩
  · obtain ⟨b, fa, h6, h7, h8⟩ := hA a ha
    refine ⟨b, fa, ABq_kp h6 hb hk (hn 4 (by decide) (by decide) (by decide)), PBq_kp h7 hp hk (hn 3 (by decide) (by decide) (by decide)), ?_⟩
    rw [va_up_ne _ _ (by decide), va_up_ne _ _ (by decide), va_up_ne _ _ (by decide), va_up_ne _ _ (by decide)]
    exact AN_kp h8 hk (hn _ (by omega) (by omega) (by omega))
theorem FM_type {ow : Nat → Nat} {w : List va_E} {t a y q o h : Nat} {ty td : Nat → Int32} {R6 : Nat → List Int32} {gd : Nat → Option Nat} (hM : FM ow w t a y q o h ty R6 gd) (ht : t ≠ 1) (h0 : t ≠ 0) (hqh : q ≠ h) (hd : w[q]? = some (.inl (0, 6, .inl td))) (hde : ∀ j, j < 6 → td j = ty j) {j : Nat} (x : Int32) : FM ow (w.set q (.inl (0, 6, .inl (upd td j x)))) t a y q o h (upd ty j x) R6 gd := by
  obtain ⟨h1, ⟨h2, td0, h3, h4⟩, h5, h6, td1, h7⟩ := hM
  have hk : kp ow ow [t] w (w.set q (.inl (0, 6, .inl (upd td j x)))) := kp_set h3.1 (List.mem_singleton.mpr rfl) ht
  refine ⟨cl_ne h1 (fun z => ?_), ⟨cl_ne h2 (fun z => ?_), upd td j x, cl_set h3, fun i hi => ?_⟩, cl_ne h5 (fun z => ?_), fun k hk9 => FO_kp (h6 k hk9) hk (fun z => h0 (List.mem_singleton.mp z).symm), td1, cl_ne h7 hqh⟩
  · rw [z, h1.2] at hd; cases hd
  · rw [z, h2.2] at hd; cases hd
  · by_cases e : i = j
    · subst e; rw [upd_s, upd_s]
    · rw [upd_n _ _ e, upd_n _ _ e]; exact hde i hi
  · rw [z, h5.2] at hd; cases hd
section S29
set_option maxRecDepth 100000 in
set_option maxHeartbeats 4000000 in
theorem ay_versions {G : aw_G} {ow : Nat → Nat} {w : List va_E} {tn vn an : Nat} {R : Nat → List Int32} {vv : Nat → Nat} {ar : Nat → Nat → Int32} (hC : CP ow w tn vn an R vv ar) (hI : SI tn vn an R vv ar)  : AM G fX7_versions [.ref 0] w (qx (.inl (some (.int (nI vn)))) w) := by
  refine AM_of (by decide) rfl rfl (Nat.le_of_ble_eq_true rfl) ?_
  show AW G fX7_versions 0 0 w 0 [some (.ref 0)] [] _
  obtain ⟨⟨hi1, hi2, hi3⟩, hiR, hiV, hiT, hiF, hiL, hiD, hiN⟩ := id hI
  obtain ⟨⟨tx, p9, k9, l9, lt9, st9, pn9, hS, hch, htx⟩, -, -, -, -, -⟩ := id hC
  have h00 := hS.1.2
  
  refine r_aload_n (pc := 0) dX7_versions_0 rfl rfl ?_
  refine g_X7_27 (pc := 1) rfl h00 rfl dX7_versions_1 ?_
  refine r_iret (pc := 4) rfl rfl dX7_versions_4 ?_
  exact ⟨rfl, rfl⟩

set_option maxRecDepth 100000 in
set_option maxHeartbeats 4000000 in
theorem ay_answers {G : aw_G} {ow : Nat → Nat} {w : List va_E} {tn vn an : Nat} {R : Nat → List Int32} {vv : Nat → Nat} {ar : Nat → Nat → Int32} (hC : CP ow w tn vn an R vv ar) (hI : SI tn vn an R vv ar)  : AM G fX7_answers [.ref 0] w (qx (.inl (some (.int (nI an)))) w) := by
  refine AM_of (by decide) rfl rfl (Nat.le_of_ble_eq_true rfl) ?_
  show AW G fX7_answers 0 0 w 0 [some (.ref 0)] [] _
  obtain ⟨⟨hi1, hi2, hi3⟩, hiR, hiV, hiT, hiF, hiL, hiD, hiN⟩ := id hI
  obtain ⟨⟨tx, p9, k9, l9, lt9, st9, pn9, hS, hch, htx⟩, -, -, -, -, -⟩ := id hC
  have h00 := hS.1.2
  
  refine r_aload_n (pc := 0) dX7_answers_0 rfl rfl ?_
  refine g_X7_37 (pc := 1) rfl h00 rfl dX7_answers_1 ?_
  refine r_iret (pc := 4) rfl rfl dX7_answers_4 ?_
  exact ⟨rfl, rfl⟩

set_option maxRecDepth 100000 in
set_option maxHeartbeats 4000000 in
theorem ct_loop {G : aw_G} {ow : Nat → Nat} {w : List va_E} {tn vn an : Nat} {R : Nat → List Int32} {vv : Nat → Nat} {ar : Nat → Nat → Int32} (hC : CP ow w tn vn an R vv ar) (hI : SI tn vn an R vv ar) (v : Nat) : ∀ (m k c : Nat), k + m = an → c + cntU (fun k => decide (ar 7 k = 1)) k m = v → AW G fX7_counted 0 0 w 4 [some (.ref 0), some (.int (nI c)), some (.int (nI k)), none] [] (qx (.inl (some (.int (nI v)))) w) := by
  obtain ⟨⟨hi1, hi2, hi3⟩, hiR, hiV, hiT, hiF, hiL, hiD, hiN⟩ := id hI
  obtain ⟨⟨tx, p9, k9, l9, lt9, st9, pn9, hS, hch, htx⟩, -, -, -, -, -⟩ := id hC
  have h00 := hS.1.2
  
  intro m
  induction m with
  | zero =>
    intro k c hk hv
    refine r_iload_n (pc := 4) dX7_counted_4 rfl rfl ?_
    refine r_aload_n (pc := 5) dX7_counted_5 rfl rfl ?_
    refine g_X7_37 (pc := 6) rfl h00 rfl dX7_counted_6 ?_
    refine r_icmp_ge (pc := 9) (tgt := 46) dX7_counted_9 (by decide) (fun h9 => ?_) (fun h => absurd (by rw [show k = an by omega]; exact Int32.le_refl _) h)
    refine r_iload_n (pc := 46) dX7_counted_46 rfl rfl ?_
    refine r_iret (pc := 47) rfl rfl dX7_counted_47 ?_
    exact ⟨by rw [← hv]; rfl, rfl⟩
  | succ m ih =>
    intro k c hkm hv
    have hk : k < an := by omega
    have hk20 : k < 20 := by omega
    obtain ⟨b, fa, ⟨bg, hq1, hq2⟩, -, hA⟩ := hC.2.2.2.2.2 k hk
    refine r_iload_n (pc := 4) dX7_counted_4 rfl rfl ?_
    refine r_aload_n (pc := 5) dX7_counted_5 rfl rfl ?_
    refine g_X7_37 (pc := 6) rfl h00 rfl dX7_counted_6 ?_
    refine r_icmp_ge (pc := 9) (tgt := 46) dX7_counted_9 (by decide) (fun h => absurd h (nI_ge9 hk (by omega))) (fun h9 => ?_)
    refine r_iload_n (pc := 12) dX7_counted_12 rfl rfl ?_
    refine r_bipush (pc := 13) (v := 20) dX7_counted_13 (by decide) ?_
    refine r_icmp_ge (pc := 15) (tgt := 46) dX7_counted_15 (by decide) (fun h => absurd h (nI_ge9 hk20 (by decide))) (fun h15 => ?_)
    refine r_aload_n (pc := 18) dX7_counted_18 rfl rfl ?_
    refine g_X7_33 (pc := 19) rfl h00 rfl dX7_counted_19 ?_
    refine r_iload_n (pc := 22) dX7_counted_22 rfl rfl ?_
    refine r_aaload (pc := 23) (t := 6) (fun _ => rfl) hq1 (vp_in_nI (n := k) hk20 (Nat.le_of_ble_eq_true rfl)) dX7_counted_23 ?_
    rw [nI_clamp (by omega), hq2]
    refine r_astore_n (pc := 24) dX7_counted_24 rfl (Nat.le_of_ble_eq_true rfl) rfl ?_
    refine r_aload_n (pc := 25) dX7_counted_25 rfl rfl ?_
    refine r_ifnull (pc := 26) dX7_counted_26 ?_
    refine r_aload_n (pc := 29) dX7_counted_29 rfl rfl ?_
    refine s_X7_158 (pc := 30) (kc' := 0) (ks' := 0) rfl rfl (aa_stateNow hA) hA.1.2 (Nat.le_of_ble_eq_true rfl) (Nat.le_of_ble_eq_true rfl) (Nat.le_of_ble_eq_true rfl) (Nat.le_of_ble_eq_true rfl) (by exact (Nat.le_of_ble_eq_true rfl)) rfl (List.forall_mem_cons.mpr ⟨rfl, fun _ h => nomatch h⟩) rfl dX7_counted_30 aw_kt (aw_kq ?_)
    refine r_iconst (pc := 33) (v := 1) dX7_counted_33 (by decide) ?_
    refine r_icmp_ne (pc := 34) (tgt := 40) dX7_counted_34 (by decide) (fun h34 => ?_) (fun h34 => ?_)
    · refine r_iincK (pc := 40) (k9 := 1) dX7_counted_40 (by decide) rfl (Nat.le_of_ble_eq_true rfl) rfl ?_
      refine r_goto (pc := 43) (tgt := 4) dX7_counted_43 (by decide) ?_
      refine AW_drop 3 rfl ?_
      have hb : decide (ar 7 k = 1) = false := decide_eq_false h34
      rw [nI_1]
      refine ih (k + 1) (c) (by omega) (by rw [← hv, cntU, hb]; simp <;> omega)
    · refine r_iincK (pc := 37) (k9 := 1) dX7_counted_37 (by decide) rfl (Nat.le_of_ble_eq_true rfl) rfl ?_
      refine r_iincK (pc := 40) (k9 := 1) dX7_counted_40 (by decide) rfl (Nat.le_of_ble_eq_true rfl) rfl ?_
      refine r_goto (pc := 43) (tgt := 4) dX7_counted_43 (by decide) ?_
      refine AW_drop 3 rfl ?_
      have hb : decide (ar 7 k = 1) = true := decide_eq_true h34
      rw [nI_1]
      rw [nI_1]
      refine ih (k + 1) (c + 1) (by omega) (by rw [← hv, cntU, hb]; simp <;> omega)
set_option maxRecDepth 100000 in
set_option maxHeartbeats 4000000 in
theorem ax_counted {G : aw_G} {ow : Nat → Nat} {w : List va_E} {tn vn an : Nat} {R : Nat → List Int32} {vv : Nat → Nat} {ar : Nat → Nat → Int32} (hC : CP ow w tn vn an R vv ar) (hI : SI tn vn an R vv ar)  : AM G fX7_counted [.ref 0] w (qx (.inl (some (.int (nI (cntU (fun k => decide (ar 7 k = 1)) 0 an))))) w) := by
  refine AM_of (by decide) rfl rfl (Nat.le_of_ble_eq_true rfl) ?_
  show AW G fX7_counted 0 0 w 0 [some (.ref 0), none, none, none] [] _
  obtain ⟨⟨hi1, hi2, hi3⟩, hiR, hiV, hiT, hiF, hiL, hiD, hiN⟩ := id hI
  obtain ⟨⟨tx, p9, k9, l9, lt9, st9, pn9, hS, hch, htx⟩, -, -, -, -, -⟩ := id hC
  have h00 := hS.1.2
  
  refine r_iconst (pc := 0) (v := 0) dX7_counted_0 (by decide) ?_
  refine r_istore_n (pc := 1) dX7_counted_1 rfl (Nat.le_of_ble_eq_true rfl) rfl ?_
  refine r_iconst (pc := 2) (v := 0) dX7_counted_2 (by decide) ?_
  refine r_istore_n (pc := 3) dX7_counted_3 rfl (Nat.le_of_ble_eq_true rfl) rfl ?_
  exact ct_loop hC hI _ an 0 0 (Nat.zero_add _) (Nat.zero_add _)

theorem ay_type {G : aw_G} {ow : Nat → Nat} {w : List va_E} {tn vn an : Nat} {R : Nat → List Int32} {vv : Nat → Nat} {ar : Nat → Nat → Int32} (hC : CP ow w tn vn an R vv ar) (hI : SI tn vn an R vv ar) (x : Int32) (hx : narrow .char (.int x) = .int x) (hx2 : vp_nar .char x = x) : AM G fX7_type [.ref 0, .int x] w (fun r w' => (tn = 40 ∧ r = .inr "java/lang/IllegalStateException" ∧ w' = w) ∨ (tn ≠ 40 ∧ r = .inl (some (.int (nI (tn + 1)))) ∧ kp ow ow [5] w w' ∧ CP ow w' (tn + 1) vn an R vv (va_up ar 0 (upd (ar 0) tn x)))) := by
  obtain ⟨⟨tx, p9, k9, l9, lt9, st9, pn9, hS, hch, htx⟩, -⟩ := id hC
  have hw := SRC_sW hS
  have hg := ax_type (G := G) (vn := vn) (an := an) (tx := tx) (p := p9) (k := k9) (l := l9) (lt := lt9) (st := st9) (pn := pn9) (tl := w.drop 5) hI.1.1 x
  rw [← hw] at hg
  refine AM_post ?_ hg
  intro r w' hr
  unfold tyQ at hr
  have htn := hI.1.1
  by_cases h : tn < 40
  · rw [if_pos h] at hr
    obtain ⟨e1, e2⟩ := hr
    have hS1 := hS
    rw [hw] at hS1
    have hk : kp ow ow [5] w w' := by rw [e2]; rw (config := { occs := .pos [1] }) [hw]; exact kp_sW hS1
    have hS2 : SRC ow w' (c0W vn an) (upd tx tn (vp_nar .char x)) (tn + 1) p9 k9 l9 lt9 st9 pn9 := by rw [e2]; exact SRC_of hS1
    refine Or.inr ⟨by omega, e1, hk, CP_src hC hk hS2 ?_ ?_⟩
    · intro j hj
      rw [hx2]
      by_cases e : j = tn
      · subst e; rw [upd_s]; exact hx
      · rw [upd_n _ _ e]; exact hch j (by omega)
    · intro j hj
      rw [hx2]
      by_cases e : j = tn
      · subst e; rw [upd_s, upd_s]
      · rw [upd_n _ _ e, upd_n _ _ e]; exact htx j (by omega)
  · rw [if_neg h] at hr
    exact Or.inl ⟨by omega, hr.1, by rw [hr.2]; exact hw.symm⟩
theorem ay_clear {G : aw_G} {ow : Nat → Nat} {w : List va_E} {tn vn an : Nat} {R : Nat → List Int32} {vv : Nat → Nat} {ar : Nat → Nat → Int32} (hC : CP ow w tn vn an R vv ar) (hI : SI tn vn an R vv ar) : AM G fX7_clear [.ref 0] w (fun r w' => r = .inl (some (.int (nI tn))) ∧ kp ow ow [5] w w' ∧ CP ow w' 0 vn an R vv ar) := by
  obtain ⟨⟨tx, p9, k9, l9, lt9, st9, pn9, hS, hch, htx⟩, -⟩ := id hC
  have hw := SRC_sW hS
  have hg := ax_clear (G := G) (vn := vn) (an := an) (tx := tx) (tn := tn) (p := p9) (k := k9) (l := l9) (lt := lt9) (st := st9) (pn := pn9) (tl := w.drop 5)
  rw [← hw] at hg
  refine AM_post ?_ hg
  rintro r w' ⟨e1, e2⟩
  have hS1 := hS
  rw [hw] at hS1
  have hk : kp ow ow [5] w w' := by rw [e2]; rw (config := { occs := .pos [1] }) [hw]; exact kp_sW hS1
  have hS2 : SRC ow w' (c0W vn an) tx 0 p9 k9 l9 lt9 st9 pn9 := by rw [e2]; exact SRC_of hS1
  have hc := CP_src (f0 := ar 0) hC hk hS2 (fun j hj => absurd hj (Nat.not_lt_zero _)) (fun j hj => absurd hj (Nat.not_lt_zero _))
  rw [vaup_id] at hc
  exact ⟨e1, hk, hc⟩
/-- the reading of the text: its end, by the reference's words -/
def feZ (ow : Nat → Nat) (w : List va_E) (tn vn an : Nat) (R : Nat → List Int32) (vv : Nat → Nat) (ar : Nat → Nat → Int32) : aw_R → List va_E → Prop := fun r w' => r = .inl (some (.int (pe (tlist (ar 0) 0 tn) 0 true (-1) [] [false]))) ∧ kp ow ow [5] w w' ∧ CP ow w' tn vn an R vv ar ∧ (pe (tlist (ar 0) 0 tn) 0 true (-1) [] [false] = -1 → wfr (rowOf (tlist (ar 0) 0 tn)) ∧ sgL (rowOf (tlist (ar 0) 0 tn)) ∧ (plS (rowOf (tlist (ar 0) 0 tn))).length ≤ 80 ∧ ∃ (tx : Nat → Int32) (st pn : Nat → Int32), SRC ow w' (c0W vn an) tx tn tn ((rowOf (tlist (ar 0) 0 tn)).map stc).length (plS (rowOf (tlist (ar 0) 0 tn))).length (msk 0 (rowOf (tlist (ar 0) 0 tn))) st pn ∧ arow st ((rowOf (tlist (ar 0) 0 tn)).map stc) ∧ arow pn (plS (rowOf (tlist (ar 0) 0 tn))))
theorem nI_nm1 {k : Nat} (hk : k < 2 ^ 31) : nI k ≠ -1 := nI_neg1 hk
theorem feQ_Z {ow : Nat → Nat} {w : List va_E} {tn vn an : Nat} {R : Nat → List Int32} {vv : Nat → Nat} {ar : Nat → Nat → Int32} (hC : CP ow w tn vn an R vv ar) (hI : SI tn vn an R vv ar) {tx : Nat → Int32} {p k l : Nat} {lt : Int32} {st pn : Nat → Int32} (hS : SRC ow w (c0W vn an) tx tn p k l lt st pn) (hch : chOK tx tn) (htx : ∀ j, j < tn → tx j = ar 0 j) {r : aw_R} {w' : List va_E} (h : feQ (c0W vn an) tx tn (w.drop 5) r w') : feZ ow w tn vn an R vv ar r w' := by
  have hw := SRC_sW hS
  have hS1 := hS
  rw [hw] at hS1
  have htn : tn ≤ 40 := hI.1.1
  have htl : tlist tx 0 tn = tlist (ar 0) 0 tn := tlist_cong tn 0 (fun j _ hj => htx j (by omega))
  have hl : (tlist (ar 0) 0 tn).length = tn := tlist_len _ _ _
  obtain ⟨ok1, ok2⟩ := cT_ok (tlist (ar 0) 0 tn) (by rw [hl]; exact htn)
  have hsg := cT_sgL (tlist (ar 0) 0 tn)
  unfold feQ at h
  rw [htl] at h
  rcases h with ⟨hc, st2, pn2, hs, hp, e1, e2⟩ | ⟨hc, p2, k2, l2, lt2, st2, pn2, hk2, hl2, hp2, e1, e2⟩
  · obtain ⟨hpe, hlr, hseg⟩ := ok1 hc
    have hrow : rowOf (tlist (ar 0) 0 tn) = (cT (tlist (ar 0) 0 tn)).2.2 := by unfold rowOf; rw [hlr]; rfl
    have hk : kp ow ow [5] w w' := by rw [e2]; rw (config := { occs := .pos [1] }) [hw]; exact kp_sW hS1
    rw [← hrow] at hs hp e2 hseg hsg
    have hS2 : SRC ow w' (c0W vn an) tx tn tn ((rowOf (tlist (ar 0) 0 tn)).map stc).length (plS (rowOf (tlist (ar 0) 0 tn))).length (msk 0 (rowOf (tlist (ar 0) 0 tn))) st2 pn2 := by rw [e2]; exact SRC_of hS1
    have hcp := CP_src (f0 := ar 0) hC hk hS2 hch htx
    rw [vaup_id] at hcp
    rw [hl] at hseg
    refine ⟨by rw [hpe]; exact e1, hk, hcp, fun _ => ⟨⟨hseg.2.1, hseg.2.2.1, by have := hseg.2.2.2.1; omega⟩, hsg, by have := hseg.2.2.2.2; omega, tx, st2, pn2, hS2, hs, hp⟩⟩
  · obtain ⟨hle, hpe⟩ := ok2 hc
    have hk : kp ow ow [5] w w' := by rw [e2]; rw (config := { occs := .pos [1] }) [hw]; exact kp_sW hS1
    have hS2 : SRC ow w' (c0W vn an) tx tn p2 k2 l2 lt2 st2 pn2 := by rw [e2]; exact SRC_of hS1
    have hcp := CP_src (f0 := ar 0) hC hk hS2 hch htx
    rw [vaup_id] at hcp
    rw [hl] at hpe
    refine ⟨by rw [hpe, ← hp2]; exact e1, hk, hcp, fun z => ?_⟩
    rw [hpe] at z
    exact absurd z (nI_nm1 (by omega))
theorem ay_error {G : aw_G} {ow : Nat → Nat} {w : List va_E} {tn vn an : Nat} {R : Nat → List Int32} {vv : Nat → Nat} {ar : Nat → Nat → Int32} (hC : CP ow w tn vn an R vv ar) (hI : SI tn vn an R vv ar) : AM G fX7_error [.ref 0] w (feZ ow w tn vn an R vv ar) := by
  obtain ⟨⟨tx, p9, k9, l9, lt9, st9, pn9, hS, hch, htx⟩, -⟩ := id hC
  have hw := SRC_sW hS
  have hg := ax_error (G := G) (vn := vn) (an := an) (tx := tx) (p := p9) (k := k9) (l := l9) (lt := lt9) (st := st9) (pn := pn9) (tl := w.drop 5) hI.1.1 hch
  rw [← hw] at hg
  exact AM_post (fun r w' h => feQ_Z hC hI hS hch htx h) hg
theorem ay_firstError {G : aw_G} {ow : Nat → Nat} {w : List va_E} {tn vn an : Nat} {R : Nat → List Int32} {vv : Nat → Nat} {ar : Nat → Nat → Int32} (hC : CP ow w tn vn an R vv ar) (hI : SI tn vn an R vv ar) : AM G fX4_firstError [.ref 1] w (feZ ow w tn vn an R vv ar) := by
  obtain ⟨⟨tx, p9, k9, l9, lt9, st9, pn9, hS, hch, htx⟩, -⟩ := id hC
  have hw := SRC_sW hS
  have hg := ac_firstError (G := G) (c0 := c0W vn an) (tx := tx) (p := p9) (k := k9) (l := l9) (lt := lt9) (st := st9) (pn := pn9) (tl := w.drop 5) hI.1.1 hch
  rw [← hw] at hg
  exact AM_post (fun r w' h => feQ_Z hC hI hS hch htx h) hg
set_option maxRecDepth 100000 in
set_option maxHeartbeats 4000000 in
theorem ax_isBroken {G : aw_G} {ow : Nat → Nat} {w : List va_E} {tn vn an : Nat} {R : Nat → List Int32} {vv : Nat → Nat} {ar : Nat → Nat → Int32} (hC : CP ow w tn vn an R vv ar) (hI : SI tn vn an R vv ar) {f : Nat} (hf : f < 10) : AM G fX7_isBroken [.ref 0, .int (nI f)] w (qs ow w (bi (brkF (ar 4) (R f) f))) := by
  refine AM_of (by decide) rfl rfl (Nat.le_of_ble_eq_true rfl) ?_
  show AW G fX7_isBroken 1 6 w 0 [some (.ref 0), some (.int (nI f))] [] _
  obtain ⟨⟨hi1, hi2, hi3⟩, hiR, hiV, hiT, hiF, hiL, hiD, hiN⟩ := id hI
  obtain ⟨⟨tx, p9, k9, l9, lt9, st9, pn9, hS, hch, htx⟩, -, -, -, -, -⟩ := id hC
  have h00 := hS.1.2
  obtain ⟨gd, hM⟩ := hC.2.1
  refine r_iload_n (pc := 0) dX7_isBroken_0 rfl rfl ?_
  refine s_X7_87 (pc := 1) (kc' := 0) (ks' := 0) rfl rfl (ac_requireFormula hf)  (Nat.le_of_ble_eq_true rfl) (Nat.le_of_ble_eq_true rfl) (Nat.le_of_ble_eq_true rfl) (Nat.le_of_ble_eq_true rfl) (by exact (Nat.le_of_ble_eq_true rfl)) rfl (List.forall_mem_cons.mpr ⟨rfl, fun _ h => nomatch h⟩) rfl dX7_isBroken_1 aw_kt (aw_kv ?_)
  refine r_aload_n (pc := 4) dX7_isBroken_4 rfl rfl ?_
  refine g_X7_19 (pc := 5) rfl h00 rfl dX7_isBroken_5 ?_
  refine r_iload_n (pc := 8) dX7_isBroken_8 rfl rfl ?_
  refine s_X7_112 (pc := 9) (kc' := 0) (ks' := 0) rfl rfl (ac_hasBroken hM (by decide) hf) hM.1.2 (Nat.le_of_ble_eq_true rfl) (Nat.le_of_ble_eq_true rfl) (Nat.le_of_ble_eq_true rfl) (Nat.le_of_ble_eq_true rfl) (by exact (Nat.le_of_ble_eq_true rfl)) rfl (List.forall_mem_cons.mpr ⟨rfl, (List.forall_mem_cons.mpr ⟨rfl, fun _ h => nomatch h⟩)⟩) rfl dX7_isBroken_9 aw_ts (aw_ks (fun w2 hk2 => ?_))
  refine r_iret (pc := 12) rfl (bi_nar _) dX7_isBroken_12 ?_
  exact ⟨rfl, hk2⟩

set_option maxRecDepth 100000 in
set_option maxHeartbeats 4000000 in
theorem ax_isBrokenX {G : aw_G} {ow : Nat → Nat} {w : List va_E} {tn vn an : Nat} {R : Nat → List Int32} {vv : Nat → Nat} {ar : Nat → Nat → Int32} (hC : CP ow w tn vn an R vv ar) (hI : SI tn vn an R vv ar) {x : Int32} (hb : ¬ (0 ≤ x ∧ x ≤ 9)) : AM G fX7_isBroken [.ref 0, .int x] w (qx (.inr "java/lang/IndexOutOfBoundsException") w) := by
  refine AM_of (by decide) rfl rfl (Nat.le_of_ble_eq_true rfl) ?_
  show AW G fX7_isBroken 1 6 w 0 [some (.ref 0), some (.int x)] [] _
  obtain ⟨⟨hi1, hi2, hi3⟩, hiR, hiV, hiT, hiF, hiL, hiD, hiN⟩ := id hI
  obtain ⟨⟨tx, p9, k9, l9, lt9, st9, pn9, hS, hch, htx⟩, -, -, -, -, -⟩ := id hC
  have h00 := hS.1.2
  
  refine r_iload_n (pc := 0) dX7_isBroken_0 rfl rfl ?_
  refine s_X7_87 (pc := 1) (kc' := 0) (ks' := 0) rfl rfl (ac_requireFormulaX hb)  (Nat.le_of_ble_eq_true rfl) (Nat.le_of_ble_eq_true rfl) (Nat.le_of_ble_eq_true rfl) (Nat.le_of_ble_eq_true rfl) (by exact (Nat.le_of_ble_eq_true rfl)) rfl (List.forall_mem_cons.mpr ⟨rfl, fun _ h => nomatch h⟩) rfl dX7_isBroken_1 (aw_tX ⟨rfl, rfl⟩) aw_kX

set_option maxRecDepth 100000 in
set_option maxHeartbeats 4000000 in
theorem ax_dropFormulaX {G : aw_G} {ow : Nat → Nat} {w : List va_E} {tn vn an : Nat} {R : Nat → List Int32} {vv : Nat → Nat} {ar : Nat → Nat → Int32} (hC : CP ow w tn vn an R vv ar) (hI : SI tn vn an R vv ar) {x : Int32} (hb : ¬ (0 ≤ x ∧ x ≤ 9)) : AM G fX7_dropFormula [.ref 0, .int x] w (qx (.inr "java/lang/IndexOutOfBoundsException") w) := by
  refine AM_of (by decide) rfl rfl (Nat.le_of_ble_eq_true rfl) ?_
  show AW G fX7_dropFormula 1 6 w 0 [some (.ref 0), some (.int x), none] [] _
  obtain ⟨⟨hi1, hi2, hi3⟩, hiR, hiV, hiT, hiF, hiL, hiD, hiN⟩ := id hI
  obtain ⟨⟨tx, p9, k9, l9, lt9, st9, pn9, hS, hch, htx⟩, -, -, -, -, -⟩ := id hC
  have h00 := hS.1.2
  
  refine r_iload_n (pc := 0) dX7_dropFormula_0 rfl rfl ?_
  refine s_X7_87 (pc := 1) (kc' := 0) (ks' := 0) rfl rfl (ac_requireFormulaX hb)  (Nat.le_of_ble_eq_true rfl) (Nat.le_of_ble_eq_true rfl) (Nat.le_of_ble_eq_true rfl) (Nat.le_of_ble_eq_true rfl) (by exact (Nat.le_of_ble_eq_true rfl)) rfl (List.forall_mem_cons.mpr ⟨rfl, fun _ h => nomatch h⟩) rfl dX7_dropFormula_1 (aw_tX ⟨rfl, rfl⟩) aw_kX

set_option maxRecDepth 100000 in
set_option maxHeartbeats 4000000 in
theorem ax_setFormulaX {G : aw_G} {ow : Nat → Nat} {w : List va_E} {tn vn an : Nat} {R : Nat → List Int32} {vv : Nat → Nat} {ar : Nat → Nat → Int32} (hC : CP ow w tn vn an R vv ar) (hI : SI tn vn an R vv ar) {x : Int32} (hb : ¬ (0 ≤ x ∧ x ≤ 9)) : AM G fX7_setFormula [.ref 0, .int x] w (qx (.inr "java/lang/IndexOutOfBoundsException") w) := by
  refine AM_of (by decide) rfl rfl (Nat.le_of_ble_eq_true rfl) ?_
  show AW G fX7_setFormula 10 388 w 0 [some (.ref 0), some (.int x), none] [] _
  obtain ⟨⟨hi1, hi2, hi3⟩, hiR, hiV, hiT, hiF, hiL, hiD, hiN⟩ := id hI
  obtain ⟨⟨tx, p9, k9, l9, lt9, st9, pn9, hS, hch, htx⟩, -, -, -, -, -⟩ := id hC
  have h00 := hS.1.2
  
  refine r_iload_n (pc := 0) dX7_setFormula_0 rfl rfl ?_
  refine s_X7_87 (pc := 1) (kc' := 9) (ks' := 382) rfl rfl (ac_requireFormulaX hb)  (Nat.le_of_ble_eq_true rfl) (Nat.le_of_ble_eq_true rfl) (Nat.le_of_ble_eq_true rfl) (Nat.le_of_ble_eq_true rfl) (by exact (Nat.le_of_ble_eq_true rfl)) rfl (List.forall_mem_cons.mpr ⟨rfl, fun _ h => nomatch h⟩) rfl dX7_setFormula_1 (aw_tX ⟨rfl, rfl⟩) aw_kX

def xq_dropFormula (ow : Nat → Nat) (w : List va_E) (tn vn an : Nat) (R : Nat → List Int32) (vv : Nat → Nat) (ar : Nat → Nat → Int32) (f : Nat) : aw_R → List va_E → Prop := fun r w' => r = .inl (some (.int (bi (decide (R f ≠ []))))) ∧ kp ow ow [2] w w' ∧ CP ow w' tn vn an (va_up R f []) vv ar
set_option maxRecDepth 100000 in
set_option maxHeartbeats 4000000 in
theorem ax_dropFormula {G : aw_G} {ow : Nat → Nat} {w : List va_E} {tn vn an : Nat} {R : Nat → List Int32} {vv : Nat → Nat} {ar : Nat → Nat → Int32} (hC : CP ow w tn vn an R vv ar) (hI : SI tn vn an R vv ar) {f : Nat} (hf : f < 10) : AM G fX7_dropFormula [.ref 0, .int (nI f)] w (xq_dropFormula ow w tn vn an R vv ar f) := by
  refine AM_of (by decide) rfl rfl (Nat.le_of_ble_eq_true rfl) ?_
  show AW G fX7_dropFormula 1 6 w 0 [some (.ref 0), some (.int (nI f)), none] [] _
  obtain ⟨⟨hi1, hi2, hi3⟩, hiR, hiV, hiT, hiF, hiL, hiD, hiN⟩ := id hI
  obtain ⟨⟨tx, p9, k9, l9, lt9, st9, pn9, hS, hch, htx⟩, -, -, -, -, -⟩ := id hC
  have h00 := hS.1.2
  obtain ⟨gd, hM⟩ := hC.2.1
  refine r_iload_n (pc := 0) dX7_dropFormula_0 rfl rfl ?_
  refine s_X7_87 (pc := 1) (kc' := 0) (ks' := 0) rfl rfl (ac_requireFormula hf)  (Nat.le_of_ble_eq_true rfl) (Nat.le_of_ble_eq_true rfl) (Nat.le_of_ble_eq_true rfl) (Nat.le_of_ble_eq_true rfl) (by exact (Nat.le_of_ble_eq_true rfl)) rfl (List.forall_mem_cons.mpr ⟨rfl, fun _ h => nomatch h⟩) rfl dX7_dropFormula_1 aw_kt (aw_kv ?_)
  refine r_aload_n (pc := 4) dX7_dropFormula_4 rfl rfl ?_
  refine g_X7_19 (pc := 5) rfl h00 rfl dX7_dropFormula_5 ?_
  refine r_iload_n (pc := 8) dX7_dropFormula_8 rfl rfl ?_
  refine s_X7_108 (pc := 9) (kc' := 0) (ks' := 0) rfl rfl (ac_formulaAt hM hf) hM.1.2 (Nat.le_of_ble_eq_true rfl) (Nat.le_of_ble_eq_true rfl) (Nat.le_of_ble_eq_true rfl) (Nat.le_of_ble_eq_true rfl) (by exact (Nat.le_of_ble_eq_true rfl)) rfl (List.forall_mem_cons.mpr ⟨rfl, (List.forall_mem_cons.mpr ⟨rfl, fun _ h => nomatch h⟩)⟩) rfl dX7_dropFormula_9 aw_kt (aw_kq ?_)
  have hO := FO_none (hM.2.2.2.1 f hf)
  cases hg : gd f with
  | none =>
    rw [hg] at hO
    refine r_ifnullN (pc := 12) (tgt := 19) dX7_dropFormula_12 (by decide) ?_
    refine r_iconst (pc := 19) (v := 0) dX7_dropFormula_19 (by decide) ?_
    refine r_istore_n (pc := 20) dX7_dropFormula_20 rfl (Nat.le_of_ble_eq_true rfl) rfl ?_
    refine r_aload_n (pc := 21) dX7_dropFormula_21 rfl rfl ?_
    refine g_X7_19 (pc := 22) rfl h00 rfl dX7_dropFormula_22 ?_
    refine r_iload_n (pc := 25) dX7_dropFormula_25 rfl rfl ?_
    refine r_null (pc := 26) dX7_dropFormula_26 ?_
    refine s_X7_101 (pc := 27) (kc' := 0) (ks' := 0) rfl rfl (ac_giveFormulaN hM hf) hM.1.2 (Nat.le_of_ble_eq_true rfl) (Nat.le_of_ble_eq_true rfl) (Nat.le_of_ble_eq_true rfl) (Nat.le_of_ble_eq_true rfl) (by exact (Nat.le_of_ble_eq_true rfl)) rfl (List.forall_mem_cons.mpr ⟨rfl, (List.forall_mem_cons.mpr ⟨rfl, (List.forall_mem_cons.mpr ⟨rfl, fun _ h => nomatch h⟩)⟩)⟩) rfl dX7_dropFormula_27 aw_kt (aw_kv ?_)
    refine r_iload_n (pc := 30) dX7_dropFormula_30 rfl rfl ?_
    refine r_iret (pc := 31) rfl rfl dX7_dropFormula_31 ?_
    have hk9 : kp ow ow [2] w _ := kp_set (e := .inl (5, 10, .inr (.inr (.inr (.inr (va_up gd f none)))))) hM.2.2.1.1 (List.mem_singleton.mpr rfl) (by decide)
    have hd := CP_dr hC hk9 (fun t z => Or.inr (Or.inl (List.mem_singleton.mp z))) (FM_give hM (by decide) (by decide) (k := f) (x := none) (row := []) rfl) (fun i hi => va_up_ne _ _ (by omega)) (fun i _ => rfl)
    rw [vaup_id] at hd
    exact ⟨by rw [show decide (R f ≠ []) = false from decide_eq_false (fun z => z (hO.mpr rfl))]; rfl, hk9, hd⟩
  | some x =>
    rw [hg] at hO
    refine r_ifnull (pc := 12) dX7_dropFormula_12 ?_
    refine r_iconst (pc := 15) (v := 1) dX7_dropFormula_15 (by decide) ?_
    refine r_goto (pc := 16) (tgt := 20) dX7_dropFormula_16 (by decide) ?_
    refine r_istore_n (pc := 20) dX7_dropFormula_20 rfl (Nat.le_of_ble_eq_true rfl) rfl ?_
    refine r_aload_n (pc := 21) dX7_dropFormula_21 rfl rfl ?_
    refine g_X7_19 (pc := 22) rfl h00 rfl dX7_dropFormula_22 ?_
    refine r_iload_n (pc := 25) dX7_dropFormula_25 rfl rfl ?_
    refine r_null (pc := 26) dX7_dropFormula_26 ?_
    refine s_X7_101 (pc := 27) (kc' := 0) (ks' := 0) rfl rfl (ac_giveFormulaN hM hf) hM.1.2 (Nat.le_of_ble_eq_true rfl) (Nat.le_of_ble_eq_true rfl) (Nat.le_of_ble_eq_true rfl) (Nat.le_of_ble_eq_true rfl) (by exact (Nat.le_of_ble_eq_true rfl)) rfl (List.forall_mem_cons.mpr ⟨rfl, (List.forall_mem_cons.mpr ⟨rfl, (List.forall_mem_cons.mpr ⟨rfl, fun _ h => nomatch h⟩)⟩)⟩) rfl dX7_dropFormula_27 aw_kt (aw_kv ?_)
    refine r_iload_n (pc := 30) dX7_dropFormula_30 rfl rfl ?_
    refine r_iret (pc := 31) rfl rfl dX7_dropFormula_31 ?_
    have hk9 : kp ow ow [2] w _ := kp_set (e := .inl (5, 10, .inr (.inr (.inr (.inr (va_up gd f none)))))) hM.2.2.1.1 (List.mem_singleton.mpr rfl) (by decide)
    have hd := CP_dr hC hk9 (fun t z => Or.inr (Or.inl (List.mem_singleton.mp z))) (FM_give hM (by decide) (by decide) (k := f) (x := none) (row := []) rfl) (fun i hi => va_up_ne _ _ (by omega)) (fun i _ => rfl)
    rw [vaup_id] at hd
    exact ⟨by rw [show decide (R f ≠ []) = true from decide_eq_true (fun z => by cases hO.mp z)]; rfl, hk9, hd⟩

set_option maxRecDepth 100000 in
set_option maxHeartbeats 4000000 in
theorem ax_setTypeX {G : aw_G} {ow : Nat → Nat} {w : List va_E} {tn vn an : Nat} {R : Nat → List Int32} {vv : Nat → Nat} {ar : Nat → Nat → Int32} (hC : CP ow w tn vn an R vv ar) (hI : SI tn vn an R vv ar) {f g : Int32} (hb : ¬ (0 ≤ f ∧ f ≤ 5)) : AM G fX7_setType [.ref 0, .int f, .int g] w (qx (.inr "java/lang/IndexOutOfBoundsException") w) := by
  refine AM_of (by decide) rfl rfl (Nat.le_of_ble_eq_true rfl) ?_
  show AW G fX7_setType 2 12 w 0 [some (.ref 0), some (.int f), some (.int g)] [] _
  obtain ⟨⟨hi1, hi2, hi3⟩, hiR, hiV, hiT, hiF, hiL, hiD, hiN⟩ := id hI
  obtain ⟨⟨tx, p9, k9, l9, lt9, st9, pn9, hS, hch, htx⟩, -, -, -, -, -⟩ := id hC
  have h00 := hS.1.2
  
  refine r_iload_n (pc := 0) dX7_setType_0 rfl rfl ?_
  refine s_X7_71 (pc := 1) (kc' := 1) (ks' := 6) rfl rfl (ac_requireFieldX hb)  (Nat.le_of_ble_eq_true rfl) (Nat.le_of_ble_eq_true rfl) (Nat.le_of_ble_eq_true rfl) (Nat.le_of_ble_eq_true rfl) (by exact (Nat.le_of_ble_eq_true rfl)) rfl (List.forall_mem_cons.mpr ⟨rfl, fun _ h => nomatch h⟩) rfl dX7_setType_1 (aw_tX ⟨rfl, rfl⟩) aw_kX

set_option maxRecDepth 100000 in
set_option maxHeartbeats 4000000 in
theorem ax_setTypeY {G : aw_G} {ow : Nat → Nat} {w : List va_E} {tn vn an : Nat} {R : Nat → List Int32} {vv : Nat → Nat} {ar : Nat → Nat → Int32} (hC : CP ow w tn vn an R vv ar) (hI : SI tn vn an R vv ar) {f : Nat} {g : Int32} (hf6 : f < 6) (hb : ¬ (0 ≤ g ∧ g ≤ 3)) : AM G fX7_setType [.ref 0, .int (nI f), .int g] w (qx (.inr "java/lang/IllegalArgumentException") w) := by
  refine AM_of (by decide) rfl rfl (Nat.le_of_ble_eq_true rfl) ?_
  show AW G fX7_setType 2 12 w 0 [some (.ref 0), some (.int (nI f)), some (.int g)] [] _
  obtain ⟨⟨hi1, hi2, hi3⟩, hiR, hiV, hiT, hiF, hiL, hiD, hiN⟩ := id hI
  obtain ⟨⟨tx, p9, k9, l9, lt9, st9, pn9, hS, hch, htx⟩, -, -, -, -, -⟩ := id hC
  have h00 := hS.1.2
  
  refine r_iload_n (pc := 0) dX7_setType_0 rfl rfl ?_
  refine s_X7_71 (pc := 1) (kc' := 1) (ks' := 6) rfl rfl (ac_requireField hf6)  (Nat.le_of_ble_eq_true rfl) (Nat.le_of_ble_eq_true rfl) (Nat.le_of_ble_eq_true rfl) (Nat.le_of_ble_eq_true rfl) (by exact (Nat.le_of_ble_eq_true rfl)) rfl (List.forall_mem_cons.mpr ⟨rfl, fun _ h => nomatch h⟩) rfl dX7_setType_1 aw_kt (aw_kv ?_)
  refine r_iload_n (pc := 4) dX7_setType_4 rfl rfl ?_
  refine r_if_lt (pc := 5) (tgt := 13) dX7_setType_5 (by decide) (fun h5 => ?_) (fun h5 => ?_)
  · refine t_iae (pc := 13) (text := "no such type") rfl rfl (by decide) dX7_setType_13 dX7_setType_16 dX7_setType_17 dX7_setType_19 dX7_setType_22 (Nat.le_of_ble_eq_true rfl) (Nat.le_of_ble_eq_true rfl) (Nat.le_of_ble_eq_true rfl) (Nat.le_of_ble_eq_true rfl) ?_
    exact ⟨rfl, rfl⟩
  · refine r_iload_n (pc := 8) dX7_setType_8 rfl rfl ?_
    refine r_iconst (pc := 9) (v := 3) dX7_setType_9 (by decide) ?_
    refine r_icmp_le (pc := 10) (tgt := 23) dX7_setType_10 (by decide) (fun h10 => ?_) (fun h10 => ?_)
    · exact absurd ⟨Int32.not_lt.mp h5, h10⟩ hb
    · refine t_iae (pc := 13) (text := "no such type") rfl rfl (by decide) dX7_setType_13 dX7_setType_16 dX7_setType_17 dX7_setType_19 dX7_setType_22 (Nat.le_of_ble_eq_true rfl) (Nat.le_of_ble_eq_true rfl) (Nat.le_of_ble_eq_true rfl) (Nat.le_of_ble_eq_true rfl) ?_
      exact ⟨rfl, rfl⟩

set_option maxRecDepth 100000 in
set_option maxHeartbeats 4000000 in
theorem ac_giveType {G : aw_G} {ow : Nat → Nat} {w : List va_E} {t a y q o h : Nat} {ty : Nat → Int32} {R6 : Nat → List Int32} {gd : Nat → Option Nat} (hM : FM ow w t a y q o h ty R6 gd) {td : Nat → Int32} (hd : w[q]? = some (.inl (0, 6, .inl td))) {j : Nat} (hj : j < 6) (x : Int32) : AM G fX1_giveType [.ref a, .int (nI j), .int x] w (qx (.inl none) (w.set q (.inl (0, 6, .inl (upd td j x))))) := by
  refine AM_of (by decide) rfl rfl (Nat.le_of_ble_eq_true rfl) ?_
  show AW G fX1_giveType 0 0 w 0 [some (.ref a), some (.int (nI j)), some (.int x)] [] _
  refine r_aload_n (pc := 0) dX1_giveType_0 rfl rfl ?_
  refine g_X1_26 (pc := 1) rfl hM.1.2 rfl dX1_giveType_1 ?_
  refine r_iload_n (pc := 4) dX1_giveType_4 rfl rfl ?_
  refine r_iload_n (pc := 5) dX1_giveType_5 rfl rfl ?_
  refine s_X1_34 (pc := 6) (kc' := 0) (ks' := 0) rfl rfl (ac5_give hM.2.1.1.2 hd hj x) hM.2.1.1.2 (Nat.le_of_ble_eq_true rfl) (Nat.le_of_ble_eq_true rfl) (Nat.le_of_ble_eq_true rfl) (Nat.le_of_ble_eq_true rfl) (by exact (Nat.le_of_ble_eq_true rfl)) rfl (List.forall_mem_cons.mpr ⟨rfl, (List.forall_mem_cons.mpr ⟨rfl, (List.forall_mem_cons.mpr ⟨rfl, fun _ h => nomatch h⟩)⟩)⟩) rfl dX1_giveType_6 aw_kt (aw_kv ?_)
  refine r_vret (pc := 9) rfl dX1_giveType_9 ?_
  exact ⟨rfl, rfl⟩

def xq_setType (ow : Nat → Nat) (w : List va_E) (tn vn an : Nat) (R : Nat → List Int32) (vv : Nat → Nat) (ar : Nat → Nat → Int32) (f : Nat) (g : Int32) : aw_R → List va_E → Prop := fun r w' => r = .inl (some (.int (nI (cntU (fun k => brkF (upd (ar 4) f g) (R k) k) 0 10)))) ∧ kp ow ow [1, 2] w w' ∧ CP ow w' tn vn an R vv (va_up ar 4 (upd (ar 4) f g))
set_option maxRecDepth 100000 in
set_option maxHeartbeats 4000000 in
theorem ax_setType {G : aw_G} {ow : Nat → Nat} {w : List va_E} {tn vn an : Nat} {R : Nat → List Int32} {vv : Nat → Nat} {ar : Nat → Nat → Int32} (hC : CP ow w tn vn an R vv ar) (hI : SI tn vn an R vv ar) {f : Nat} {g : Int32} (hf6 : f < 6) (hb : 0 ≤ g ∧ g ≤ 3) : AM G fX7_setType [.ref 0, .int (nI f), .int g] w (xq_setType ow w tn vn an R vv ar f g) := by
  refine AM_of (by decide) rfl rfl (Nat.le_of_ble_eq_true rfl) ?_
  show AW G fX7_setType 2 12 w 0 [some (.ref 0), some (.int (nI f)), some (.int g)] [] _
  obtain ⟨⟨hi1, hi2, hi3⟩, hiR, hiV, hiT, hiF, hiL, hiD, hiN⟩ := id hI
  obtain ⟨⟨tx, p9, k9, l9, lt9, st9, pn9, hS, hch, htx⟩, -, -, -, -, -⟩ := id hC
  have h00 := hS.1.2
  obtain ⟨gd, hM⟩ := hC.2.1
  obtain ⟨td, hd, hde⟩ := hM.2.1.2
  refine r_iload_n (pc := 0) dX7_setType_0 rfl rfl ?_
  refine s_X7_71 (pc := 1) (kc' := 1) (ks' := 6) rfl rfl (ac_requireField hf6)  (Nat.le_of_ble_eq_true rfl) (Nat.le_of_ble_eq_true rfl) (Nat.le_of_ble_eq_true rfl) (Nat.le_of_ble_eq_true rfl) (by exact (Nat.le_of_ble_eq_true rfl)) rfl (List.forall_mem_cons.mpr ⟨rfl, fun _ h => nomatch h⟩) rfl dX7_setType_1 aw_kt (aw_kv ?_)
  refine r_iload_n (pc := 4) dX7_setType_4 rfl rfl ?_
  refine r_if_lt (pc := 5) (tgt := 13) dX7_setType_5 (by decide) (fun h => absurd hb.1 (Int32.not_le.mpr h)) (fun h5 => ?_)
  refine r_iload_n (pc := 8) dX7_setType_8 rfl rfl ?_
  refine r_iconst (pc := 9) (v := 3) dX7_setType_9 (by decide) ?_
  refine r_icmp_le (pc := 10) (tgt := 23) dX7_setType_10 (by decide) (fun h10 => ?_) (fun h => absurd hb.2 h)
  refine r_aload_n (pc := 23) dX7_setType_23 rfl rfl ?_
  refine g_X7_19 (pc := 24) rfl h00 rfl dX7_setType_24 ?_
  refine r_iload_n (pc := 27) dX7_setType_27 rfl rfl ?_
  refine r_iload_n (pc := 28) dX7_setType_28 rfl rfl ?_
  refine s_X7_80 (pc := 29) (kc' := 1) (ks' := 6) rfl rfl (ac_giveType hM hd.2 hf6 g) hM.1.2 (Nat.le_of_ble_eq_true rfl) (Nat.le_of_ble_eq_true rfl) (Nat.le_of_ble_eq_true rfl) (Nat.le_of_ble_eq_true rfl) (by exact (Nat.le_of_ble_eq_true rfl)) rfl (List.forall_mem_cons.mpr ⟨rfl, (List.forall_mem_cons.mpr ⟨rfl, (List.forall_mem_cons.mpr ⟨rfl, fun _ h => nomatch h⟩)⟩)⟩) rfl dX7_setType_29 aw_kt (aw_kv ?_)
  have hk9 : kp ow ow [2] w _ := kp_set (e := .inl (0, 6, .inl (upd td f g))) hd.1 (List.mem_singleton.mpr rfl) (by decide)
  have hM2 := FM_type hM (by decide) (by decide) (by decide) hd.2 hde (j := f) g
  have h02 := (cl_kp hS.1 hk9 (by decide)).2
  refine r_aload_n (pc := 32) dX7_setType_32 rfl rfl ?_
  refine g_X7_19 (pc := 33) rfl h02 rfl dX7_setType_33 ?_
  refine s_X7_84 (pc := 36) (kc' := 1) (ks' := 6) rfl rfl (ac_countBroken hM2 (by decide)) hM2.1.2 (Nat.le_of_ble_eq_true rfl) (Nat.le_of_ble_eq_true rfl) (Nat.le_of_ble_eq_true rfl) (Nat.le_of_ble_eq_true rfl) (by exact (Nat.le_of_ble_eq_true rfl)) rfl (List.forall_mem_cons.mpr ⟨rfl, fun _ h => nomatch h⟩) rfl dX7_setType_36 aw_ts (aw_ks (fun w2 hk2 => ?_))
  refine r_iret (pc := 39) rfl rfl dX7_setType_39 ?_
  have hk3 := kp_tr (kp_mono hk9 (ts' := [1, 2]) (by simp)) (kp_mono hk2 (by simp))
  exact ⟨rfl, hk3, CP_dr hC hk3 (by simp) (FM_kp hM2 hk2 (by decide) (by decide)) (fun _ _ => rfl) (fun i hi => upd_n _ _ (by omega))⟩

end S29
