/-! ===== the reference: judging ===== -/
section M9
theorem crow_ag2 {ar ar' : Nat → Nat → Int32} {sc sc' : Nat → Int32} {its : Nat} {row : List Int32} {Ka Ks : List Nat} (h : crow ar its row) (hag : ag Ks Ka sc ar sc' ar') (h2 : 2 ∉ Ka := by decide) (h3 : 3 ∉ Ka := by decide) : crow ar' its row := by
  unfold crow
  rw [hag.2 2 h2, hag.2 3 h3]
  exact h
set_option maxRecDepth 100000 in
set_option maxHeartbeats 4000000 in
theorem rf_loop {G : aw_G} {P T : List va_E} {sc0 : Nat → Int32} {ar0 : Nat → Nat → Int32} (hP : P.length = 12) {R : Nat → List Int32} {vv : Nat → Nat} (hR0 : ∀ its, its < 110 → crow ar0 its (R its) ∧ (R its = [] ∨ wfr (R its))) (a : Nat) (ha20 : a < 20) (hvl : vv a < 10) (hv0 : ar0 8 a = nI (vv a)) (r : Int32) : ∀ (m k : Nat) (sc : Nat → Int32) (ar : Nat → Nat → Int32), ag [] [21] sc0 ar0 sc ar → k + m = 10 → refU (fun j => ar0 9 (6 * a + j)) (fun o => R (10 * (vv a + 1) + o)) k m = r → AW G fX8_refusing 0 0 (mw P sc ar T) 3 [some (.ref 12), some (.int (nI a)), some (.int (nI k))] [] (qm P T (.inl (some (.int r))) (fun sc2 ar2 => ag [] [21] sc0 ar0 sc2 ar2)) := by
  intro m
  induction m with
  | zero =>
    intro k sc ar hag hk hr
    refine r_iload_n (pc := 3) dX8_refusing_3 rfl rfl ?_
    refine r_bipush (pc := 4) (v := 10) dX8_refusing_4 (by decide) ?_
    refine r_icmp_ge (pc := 6) (tgt := 47) dX8_refusing_6 (by decide) (fun h6 => ?_) (fun h => absurd (by rw [show k = 10 by omega]; decide) h)
    refine r_iconst (pc := 47) (v := -1) dX8_refusing_47 (by decide) ?_
    refine r_iret (pc := 48) rfl rfl dX8_refusing_48 ?_
    exact ⟨by rw [← hr]; rfl, sc, ar, rfl, hag⟩
  | succ m ih =>
    intro k sc ar hag hk hr
    refine r_iload_n (pc := 3) dX8_refusing_3 rfl rfl ?_
    refine r_bipush (pc := 4) (v := 10) dX8_refusing_4 (by decide) ?_
    refine r_icmp_ge (pc := 6) (tgt := 47) dX8_refusing_6 (by decide) (fun h => absurd h (nI_ge9 (b := 10) (by omega) (by decide))) (fun h6 => ?_)
    refine r_aload_n (pc := 9) dX8_refusing_9 rfl rfl ?_
    refine mg_16 (pc := 10) hP rfl dX8_refusing_10 ?_
    refine r_bipush (pc := 13) (v := 10) dX8_refusing_13 (by decide) ?_
    refine r_aload_n (pc := 15) dX8_refusing_15 rfl rfl ?_
    refine mg_25 (pc := 16) hP rfl dX8_refusing_16 ?_
    refine r_iload_n (pc := 19) dX8_refusing_19 rfl rfl ?_
    refine mln_8 (pc := 20) (a) hP ⟨rfl, ha20⟩ dX8_refusing_20 ?_
    have hvr : ar 8 a = nI (vv a) := by rw [hag.2 8 (by decide)]; exact hv0
    rw [hvr]
    refine r_iconst (pc := 21) (v := 1) dX8_refusing_21 (by decide) ?_
    refine r_iadd (pc := 22) dX8_refusing_22 ?_
    refine r_imul (pc := 23) dX8_refusing_23 ?_
    refine r_iload_n (pc := 24) dX8_refusing_24 rfl rfl ?_
    refine r_iadd (pc := 25) dX8_refusing_25 ?_
    refine mln_3 (pc := 26) (10 * (vv a + 1) + k) hP ⟨by rw [nI_1, n10, nI_add], by omega⟩ dX8_refusing_26 ?_
    refine r_if_le (pc := 27) (tgt := 41) dX8_refusing_27 (by decide) (fun h27 => ?_) (fun h27 => ?_)
    · refine r_iincK (pc := 41) (k9 := 1) dX8_refusing_41 (by decide) rfl (Nat.le_of_ble_eq_true rfl) rfl ?_
      refine r_goto (pc := 44) (tgt := 3) dX8_refusing_44 (by decide) ?_
      have h9 : R (10 * (vv a + 1) + k) = [] := (len_pos (hR0 (10 * (vv a + 1) + k) (by omega)).1.2.2.1 (hR0 (10 * (vv a + 1) + k) (by omega)).1.2.1).mp (by rw [← hag.2 3 (by decide)]; exact h27)
      rw [nI_1]
      exact ih (k + 1) sc ar hag (by omega) (by rw [← hr, refU, if_neg (fun z => z.1 h9)])
    · have hw : wfr (R (10 * (vv a + 1) + k)) := by
        rcases (hR0 (10 * (vv a + 1) + k) (by omega)).2 with z | z
        · exact absurd ((len_pos (hR0 (10 * (vv a + 1) + k) (by omega)).1.2.2.1 (hR0 (10 * (vv a + 1) + k) (by omega)).1.2.1).mpr z) (by rw [← hag.2 3 (by decide)]; exact h27)
        · exact z
      have e9 : vaV (fun j => ar 9 (6 * a + j)) (R (10 * (vv a + 1) + k)) = vaV (fun j => ar0 9 (6 * a + j)) (R (10 * (vv a + 1) + k)) := by rw [hag.2 9 (by decide)]
      refine r_aload_n (pc := 30) dX8_refusing_30 rfl rfl ?_
      refine r_iload_n (pc := 31) dX8_refusing_31 rfl rfl ?_
      refine r_iload_n (pc := 32) dX8_refusing_32 rfl rfl ?_
      refine s_X8_211 (pc := 33) (kc' := 0) (ks' := 0) rfl rfl (am_valueOf hP ha20 hvr rfl (crow_ag2 (hR0 (10 * (vv a + 1) + k) (by omega)).1 hag) hw.2.1 (vaV_of hw)) (mw_o hP) (Nat.le_of_ble_eq_true rfl) (Nat.le_of_ble_eq_true rfl) (Nat.le_of_ble_eq_true rfl) (Nat.le_of_ble_eq_true rfl) (by exact (Nat.le_of_ble_eq_true rfl)) rfl (List.forall_mem_cons.mpr ⟨rfl, (List.forall_mem_cons.mpr ⟨rfl, (List.forall_mem_cons.mpr ⟨rfl, fun _ h => nomatch h⟩)⟩)⟩) rfl dX8_refusing_33 aw_kmt (aw_kmq (fun sc2 ar2 hag2 => ?_))
      refine r_if_ne (pc := 36) (tgt := 41) dX8_refusing_36 (by decide) (fun h36 => ?_) (fun h36 => ?_)
      · refine r_iincK (pc := 41) (k9 := 1) dX8_refusing_41 (by decide) rfl (Nat.le_of_ble_eq_true rfl) rfl ?_
        refine r_goto (pc := 44) (tgt := 3) dX8_refusing_44 (by decide) ?_
        rw [nI_1]
        exact ih (k + 1) sc2 ar2 (ag_tr hag hag2) (by omega) (by rw [← hr, refU, if_neg (fun z => h36 (by rw [e9]; exact z.2))])
      · refine r_iload_n (pc := 39) dX8_refusing_39 rfl rfl ?_
        refine r_iret (pc := 40) rfl rfl dX8_refusing_40 ?_
        exact ⟨by rw [← hr, refU, if_pos ⟨wfr_ne hw, by rw [← e9]; exact h36⟩], sc2, ar2, rfl, ag_tr hag hag2⟩
set_option maxRecDepth 100000 in
set_option maxHeartbeats 4000000 in
theorem am_refusing {G : aw_G} {P T : List va_E} {sc : Nat → Int32} {ar : Nat → Nat → Int32} (hP : P.length = 12) {R : Nat → List Int32} {vv : Nat → Nat} (hR : ∀ its, its < 110 → crow ar its (R its) ∧ (R its = [] ∨ wfr (R its))) (a : Nat) (ha20 : a < 20) (hvl : vv a < 10) (hv0 : ar 8 a = nI (vv a)) : AM G fX8_refusing [.ref 12, .int (nI a)] (mw P sc ar T) (qm P T (.inl (some (.int (refU (fun j => ar 9 (6 * a + j)) (fun o => R (10 * (vv a + 1) + o)) 6 4)))) (fun sc2 ar2 => ag [] [21] sc ar sc2 ar2)) := by
  refine AM_of (by decide) rfl rfl (Nat.le_of_ble_eq_true rfl) ?_
  show AW G fX8_refusing 0 0 (mw P sc ar T) 0 [some (.ref 12), some (.int (nI a)), none] [] _
  refine r_bipush (pc := 0) (v := 6) dX8_refusing_0 (by decide) ?_
  refine r_istore_n (pc := 2) dX8_refusing_2 rfl (Nat.le_of_ble_eq_true rfl) rfl ?_
  exact rf_loop hP hR a ha20 hvl hv0 _ 4 6 sc ar ag_rf rfl rfl

set_option maxRecDepth 100000 in
set_option maxHeartbeats 4000000 in
theorem cp_loop {G : aw_G} {P T : List va_E} {sc0 : Nat → Int32} {ar0 : Nat → Nat → Int32} (hP : P.length = 12) {R : Nat → List Int32} {vv : Nat → Nat} (hR0 : ∀ its, its < 110 → crow ar0 its (R its) ∧ (R its = [] ∨ wfr (R its))) (a : Nat) (ha20 : a < 20) (hvl : vv a < 10) (hv0 : ar0 8 a = nI (vv a)) (n : Nat) (hn6 : n ≤ 6) (v9 v10 : Nat → Int32) : ∀ (l : List Nat) (i : Nat) (sc : Nat → Int32) (ar : Nat → Nat → Int32), ag [] [9, 10, 21, 22] sc0 ar0 sc ar → i + l.length = n → (∀ j x, l[j]? = some x → ar 22 (i + j) = nI x) → (∀ k ∈ l, k < 6) → (∀ k ∈ l, R (10 * (vv a + 1) + k) ≠ []) → cmpL (fun o => R (10 * (vv a + 1) + o)) a l (ar 9) = v9 → hasL a l (ar 10) = v10 → AW G fX8_compute 0 0 (mw P sc ar T) 13 [some (.ref 12), some (.int (nI a)), some (.int (nI n)), some (.int (nI i))] [] (qm P T (.inl none) (fun sc2 ar2 => ag [] [9, 10, 21, 22] sc0 ar0 sc2 ar2 ∧ ar2 9 = v9 ∧ ar2 10 = v10)) := by
  intro l
  induction l with
  | nil =>
    intro i sc ar hag hn hol hl6 hne h9 h10
    refine r_iload_n (pc := 13) dX8_compute_13 rfl rfl ?_
    refine r_iload_n (pc := 14) dX8_compute_14 rfl rfl ?_
    refine r_icmp_ge (pc := 15) (tgt := 68) dX8_compute_15 (by decide) (fun h15 => ?_) (fun h => absurd (by rw [show i = n by simp at hn; omega]; exact Int32.le_refl _) h)
    refine r_vret (pc := 68) rfl dX8_compute_68 ?_
    exact ⟨rfl, sc, ar, rfl, hag, h9, h10⟩
  | cons k l ih =>
    intro i sc ar hag hn hol hl6 hne h9 h10
    refine r_iload_n (pc := 13) dX8_compute_13 rfl rfl ?_
    refine r_iload_n (pc := 14) dX8_compute_14 rfl rfl ?_
    refine r_icmp_ge (pc := 15) (tgt := 68) dX8_compute_15 (by decide) (fun h => absurd h (nI_ge9 (by simp at hn; omega) (by omega))) (fun h15 => ?_)
    have hk6 : k < 6 := hl6 k List.mem_cons_self
    have hvr : ar 8 a = nI (vv a) := by rw [hag.2 8 (by decide)]; exact hv0
    have hok : ar 22 i = nI k := hol 0 k rfl
    have hw : wfr (R (10 * (vv a + 1) + k)) := ((hR0 (10 * (vv a + 1) + k) (by omega)).2).elim (fun z => absurd z (hne k List.mem_cons_self)) id
    refine r_aload_n (pc := 18) dX8_compute_18 rfl rfl ?_
    refine mg_28 (pc := 19) hP rfl dX8_compute_19 ?_
    refine r_bipush (pc := 22) (v := 6) dX8_compute_22 (by decide) ?_
    refine r_iload_n (pc := 24) dX8_compute_24 rfl rfl ?_
    refine r_imul (pc := 25) dX8_compute_25 ?_
    refine r_aload_n (pc := 26) dX8_compute_26 rfl rfl ?_
    refine mg_53 (pc := 27) hP rfl dX8_compute_27 ?_
    refine r_iload_n (pc := 30) dX8_compute_30 rfl rfl ?_
    refine mln_22 (pc := 31) (i) hP ⟨rfl, by simp at hn; omega⟩ dX8_compute_31 ?_
    rw [hok]
    refine r_iadd (pc := 32) dX8_compute_32 ?_
    refine r_aload_n (pc := 33) dX8_compute_33 rfl rfl ?_
    refine r_iload_n (pc := 34) dX8_compute_34 rfl rfl ?_
    refine r_aload_n (pc := 35) dX8_compute_35 rfl rfl ?_
    refine mg_53 (pc := 36) hP rfl dX8_compute_36 ?_
    refine r_iload_n (pc := 39) dX8_compute_39 rfl rfl ?_
    refine mln_22 (pc := 40) (i) hP ⟨rfl, by simp at hn; omega⟩ dX8_compute_40 ?_
    rw [hok]
    refine s_X8_211 (pc := 41) (kc' := 0) (ks' := 0) rfl rfl (am_valueOf hP ha20 hvr rfl (crow_ag2 (hR0 (10 * (vv a + 1) + k) (by omega)).1 hag) hw.2.1 (vaV_of hw)) (mw_o hP) (Nat.le_of_ble_eq_true rfl) (Nat.le_of_ble_eq_true rfl) (Nat.le_of_ble_eq_true rfl) (Nat.le_of_ble_eq_true rfl) (by exact (Nat.le_of_ble_eq_true rfl)) rfl (List.forall_mem_cons.mpr ⟨rfl, (List.forall_mem_cons.mpr ⟨rfl, (List.forall_mem_cons.mpr ⟨rfl, fun _ h => nomatch h⟩)⟩)⟩) rfl dX8_compute_41 aw_kmt (aw_kmq (fun sc2 ar2 hag2 => ?_))
    refine msn_9 (pc := 44) (6 * a + k) hP ⟨by rw [n6, nI_add], by omega⟩ dX8_compute_44 ?_
    refine r_aload_n (pc := 45) dX8_compute_45 rfl rfl ?_
    refine mg_31 (pc := 46) hP rfl dX8_compute_46 ?_
    refine r_bipush (pc := 49) (v := 6) dX8_compute_49 (by decide) ?_
    refine r_iload_n (pc := 51) dX8_compute_51 rfl rfl ?_
    refine r_imul (pc := 52) dX8_compute_52 ?_
    refine r_aload_n (pc := 53) dX8_compute_53 rfl rfl ?_
    refine mg_53 (pc := 54) hP rfl dX8_compute_54 ?_
    refine r_iload_n (pc := 57) dX8_compute_57 rfl rfl ?_
    refine mln_22 (pc := 58) (i) hP ⟨rfl, by simp at hn; omega⟩ dX8_compute_58 ?_
    rw [show va_up ar2 9 (upd (ar2 9) (6 * a + k) (vaV (fun j => ar 9 (6 * a + j)) (R (10 * (vv a + 1) + k)))) 22 i = nI k by rw [va_up_ne _ _ (by decide), hag2.2 22 (by decide)]; exact hok]
    refine r_iadd (pc := 59) dX8_compute_59 ?_
    refine r_iconst (pc := 60) (v := 1) dX8_compute_60 (by decide) ?_
    refine msn_10 (pc := 61) (6 * a + k) hP ⟨by rw [n6, nI_add], by omega⟩ dX8_compute_61 ?_
    refine r_iincK (pc := 62) (k9 := 1) dX8_compute_62 (by decide) rfl (Nat.le_of_ble_eq_true rfl) rfl ?_
    refine r_goto (pc := 65) (tgt := 13) dX8_compute_65 (by decide) ?_
    rw [nI_1]
    rw [show vp_nar .boolean 1 = (1 : Int32) from rfl]
    have hag9 := ag_a (ag_a (ag_tr hag (ag_mono (Ks' := []) (Ka' := [9, 10, 21, 22]) hag2 (by decide) (by decide))) 9 (upd (ar2 9) (6 * a + k) (vaV (fun j => ar 9 (6 * a + j)) (R (10 * (vv a + 1) + k)))) (by decide)) 10 (upd (ar2 10) (6 * a + k) 1) (by decide)
    refine ih (i + 1) sc2 _ hag9 (by simp at hn ⊢; omega) ?_ (fun x hx => hl6 x (List.mem_cons_of_mem _ hx)) (fun x hx => hne x (List.mem_cons_of_mem _ hx)) ?_ ?_
    · intro j x hx
      rw [va_up_ne _ _ (by decide), va_up_ne _ _ (by decide), hag2.2 22 (by decide), show i + 1 + j = i + (j + 1) by omega]
      exact hol (j + 1) x (by simpa using hx)
    · rw [va_up_ne _ _ (by decide), va_up_self, hag2.2 9 (by decide), ← h9]
      rfl
    · rw [va_up_self, va_up_ne _ _ (by decide), hag2.2 10 (by decide), ← h10]
      rfl
set_option maxRecDepth 100000 in
set_option maxHeartbeats 4000000 in
theorem am_compute {G : aw_G} {P T : List va_E} {sc : Nat → Int32} {ar : Nat → Nat → Int32} (hP : P.length = 12) {R : Nat → List Int32} {vv : Nat → Nat} (hR : ∀ its, its < 110 → crow ar its (R its) ∧ (R its = [] ∨ wfr (R its))) (a : Nat) (ha20 : a < 20) (hvl : vv a < 10) (hv0 : ar 8 a = nI (vv a)) : AM G fX8_compute [.ref 12, .int (nI a)] (mw P sc ar T) (qm P T (.inl none) (fun sc2 ar2 => ag [] [9, 10, 21, 22] sc ar sc2 ar2 ∧ ar2 9 = cmpL (fun o => R (10 * (vv a + 1) + o)) a (ordO (fun o => R (10 * (vv a + 1) + o)) 6 0 []) (ar 9) ∧ ar2 10 = hasL a (ordO (fun o => R (10 * (vv a + 1) + o)) 6 0 []) (ar 10))) := by
  refine AM_of (by decide) rfl rfl (Nat.le_of_ble_eq_true rfl) ?_
  show AW G fX8_compute 0 0 (mw P sc ar T) 0 [some (.ref 12), some (.int (nI a)), none, none] [] _
  refine r_aload_n (pc := 0) dX8_compute_0 rfl rfl ?_
  refine r_aload_n (pc := 1) dX8_compute_1 rfl rfl ?_
  refine mg_25 (pc := 2) hP rfl dX8_compute_2 ?_
  refine r_iload_n (pc := 5) dX8_compute_5 rfl rfl ?_
  refine mln_8 (pc := 6) (a) hP ⟨rfl, ha20⟩ dX8_compute_6 ?_
  rw [hv0]
  refine s_X8_178 (pc := 7) (kc' := 0) (ks' := 0) rfl rfl (am_layOrder hP hR (vv a) hvl) (mw_o hP) (Nat.le_of_ble_eq_true rfl) (Nat.le_of_ble_eq_true rfl) (Nat.le_of_ble_eq_true rfl) (Nat.le_of_ble_eq_true rfl) (by exact (Nat.le_of_ble_eq_true rfl)) rfl (List.forall_mem_cons.mpr ⟨rfl, (List.forall_mem_cons.mpr ⟨rfl, fun _ h => nomatch h⟩)⟩) rfl dX8_compute_7 aw_kmt (aw_kmq (fun sc1 ar1 hC1 => ?_))
  refine r_istore_n (pc := 10) dX8_compute_10 rfl (Nat.le_of_ble_eq_true rfl) rfl ?_
  refine r_iconst (pc := 11) (v := 0) dX8_compute_11 (by decide) ?_
  refine r_istore_n (pc := 12) dX8_compute_12 rfl (Nat.le_of_ble_eq_true rfl) rfl ?_
  have hR1 : ∀ its, its < 110 → crow ar1 its (R its) ∧ (R its = [] ∨ wfr (R its)) := fun its hi => ⟨crow_ag2 (hR its hi).1 hC1.1, (hR its hi).2⟩
  refine AW_post (Q' := qm P T (.inl none) (fun sc2 ar2 => ag [] [9, 10, 21, 22] sc1 ar1 sc2 ar2 ∧ ar2 9 = cmpL (fun o => R (10 * (vv a + 1) + o)) a (ordO (fun o => R (10 * (vv a + 1) + o)) 6 0 []) (ar1 9) ∧ ar2 10 = hasL a (ordO (fun o => R (10 * (vv a + 1) + o)) 6 0 []) (ar1 10))) (fun r w' hq => ?_) (cp_loop hP hR1 a ha20 hvl (by rw [hC1.1.2 8 (by decide)]; exact hv0) (ordO (fun o => R (10 * (vv a + 1) + o)) 6 0 []).length (by have := ordO_len (R6 := (fun o => R (10 * (vv a + 1) + o))) 6 0 []; simpa using this) _ _ (ordO (fun o => R (10 * (vv a + 1) + o)) 6 0 []) 0 sc1 ar1 ag_rf (Nat.zero_add _) (fun j x hx => by rw [Nat.zero_add]; exact hC1.2 j x hx) (ordO_mem 6 0 [] (fun k hk => by cases hk)) (ordO_ne 6 0 [] (fun k hk => by cases hk)) rfl rfl)
  obtain ⟨hr, sc2, ar2, hw', hag2, e9, e10⟩ := hq
  refine ⟨hr, sc2, ar2, hw', ag_tr (ag_mono hC1.1 (by decide) (by decide)) hag2, ?_, ?_⟩
  · rw [e9, hC1.1.2 9 (by decide)]
  · rw [e10, hC1.1.2 10 (by decide)]

set_option maxRecDepth 100000 in
set_option maxHeartbeats 4000000 in
theorem am_judge {G : aw_G} {P T : List va_E} {sc : Nat → Int32} {ar : Nat → Nat → Int32} (hP : P.length = 12) {R : Nat → List Int32} {vv : Nat → Nat} (hR : ∀ its, its < 110 → crow ar its (R its) ∧ (R its = [] ∨ wfr (R its))) (a : Nat) (ha20 : a < 20) (hvl : vv a < 10) (hv0 : ar 8 a = nI (vv a)) : AM G fX8_judge [.ref 12, .int (nI a)] (mw P sc ar T) (qm P T (.inl (some (.int (stJ (refU (fun j => cmpL (fun o => R (10 * (vv a + 1) + o)) a (ordO (fun o => R (10 * (vv a + 1) + o)) 6 0 []) (ar 9) (6 * a + j)) (fun o => R (10 * (vv a + 1) + o)) 6 4) (ar 11 a))))) (fun sc2 ar2 => ag [] [7, 9, 10, 21, 22] sc ar sc2 ar2 ∧ ar2 7 = upd (ar 7) a (stJ (refU (fun j => cmpL (fun o => R (10 * (vv a + 1) + o)) a (ordO (fun o => R (10 * (vv a + 1) + o)) 6 0 []) (ar 9) (6 * a + j)) (fun o => R (10 * (vv a + 1) + o)) 6 4) (ar 11 a)) ∧ ar2 9 = cmpL (fun o => R (10 * (vv a + 1) + o)) a (ordO (fun o => R (10 * (vv a + 1) + o)) 6 0 []) (ar 9) ∧ ar2 10 = hasL a (ordO (fun o => R (10 * (vv a + 1) + o)) 6 0 []) (ar 10))) := by
  refine AM_of (by decide) rfl rfl (Nat.le_of_ble_eq_true rfl) ?_
  show AW G fX8_judge 0 0 (mw P sc ar T) 0 [some (.ref 12), some (.int (nI a))] [] _
  refine r_aload_n (pc := 0) dX8_judge_0 rfl rfl ?_
  refine r_iload_n (pc := 1) dX8_judge_1 rfl rfl ?_
  refine s_X8_214 (pc := 2) (kc' := 0) (ks' := 0) rfl rfl (am_compute hP hR a ha20 hvl hv0) (mw_o hP) (Nat.le_of_ble_eq_true rfl) (Nat.le_of_ble_eq_true rfl) (Nat.le_of_ble_eq_true rfl) (Nat.le_of_ble_eq_true rfl) (by exact (Nat.le_of_ble_eq_true rfl)) rfl (List.forall_mem_cons.mpr ⟨rfl, (List.forall_mem_cons.mpr ⟨rfl, fun _ h => nomatch h⟩)⟩) rfl dX8_judge_2 aw_kmt (aw_kmv (fun sc1 ar1 hC1 => ?_))
  refine r_aload_n (pc := 5) dX8_judge_5 rfl rfl ?_
  refine mg_22 (pc := 6) hP rfl dX8_judge_6 ?_
  refine r_iload_n (pc := 9) dX8_judge_9 rfl rfl ?_
  refine r_aload_n (pc := 10) dX8_judge_10 rfl rfl ?_
  refine r_iload_n (pc := 11) dX8_judge_11 rfl rfl ?_
  refine s_X8_217 (pc := 12) (kc' := 0) (ks' := 0) rfl rfl (am_refusing hP (fun its hi => ⟨crow_ag2 (hR its hi).1 hC1.1, (hR its hi).2⟩) a ha20 hvl (by rw [hC1.1.2 8 (by decide)]; exact hv0)) (mw_o hP) (Nat.le_of_ble_eq_true rfl) (Nat.le_of_ble_eq_true rfl) (Nat.le_of_ble_eq_true rfl) (Nat.le_of_ble_eq_true rfl) (by exact (Nat.le_of_ble_eq_true rfl)) rfl (List.forall_mem_cons.mpr ⟨rfl, (List.forall_mem_cons.mpr ⟨rfl, fun _ h => nomatch h⟩)⟩) rfl dX8_judge_12 aw_kmt (aw_kmq (fun sc2 ar2 hag2 => ?_))
  refine r_iconst (pc := 15) (v := -1) dX8_judge_15 (by decide) ?_
  refine r_icmp_eq (pc := 16) (tgt := 23) dX8_judge_16 (by decide) (fun h16 => ?_) (fun h16 => ?_)
  · refine r_aload_n (pc := 23) dX8_judge_23 rfl rfl ?_
    refine mg_35 (pc := 24) hP rfl dX8_judge_24 ?_
    refine r_iload_n (pc := 27) dX8_judge_27 rfl rfl ?_
    refine mln_11 (pc := 28) (a) hP ⟨rfl, ha20⟩ dX8_judge_28 ?_
    refine r_if_le (pc := 29) (tgt := 36) dX8_judge_29 (by decide) (fun h29 => ?_) (fun h29 => ?_)
    · refine r_iconst (pc := 36) (v := 1) dX8_judge_36 (by decide) ?_
      refine msn_7 (pc := 37) (a) hP ⟨rfl, ha20⟩ dX8_judge_37 ?_
      refine r_aload_n (pc := 38) dX8_judge_38 rfl rfl ?_
      refine mg_22 (pc := 39) hP rfl dX8_judge_39 ?_
      refine r_iload_n (pc := 42) dX8_judge_42 rfl rfl ?_
      refine mln_7 (pc := 43) (a) hP ⟨rfl, ha20⟩ dX8_judge_43 ?_
      refine r_iret (pc := 44) rfl rfl dX8_judge_44 ?_
      have e11 : ar2 11 = ar 11 := by rw [hag2.2 11 (by decide), hC1.1.2 11 (by decide)]
      have ej : (stJ (refU (fun j => cmpL (fun o => R (10 * (vv a + 1) + o)) a (ordO (fun o => R (10 * (vv a + 1) + o)) 6 0 []) (ar 9) (6 * a + j)) (fun o => R (10 * (vv a + 1) + o)) 6 4) (ar 11 a)) = 1 := by
        rw [stJ, if_neg (fun z => z (by rw [← hC1.2.1]; exact h16)), if_neg (by rw [← e11]; exact Int32.not_lt.mpr h29)]
      have e7 : ar2 7 = ar 7 := by rw [hag2.2 7 (by decide), hC1.1.2 7 (by decide)]
      refine ⟨by rw [va_up_self, upd_s, ej], _, _, rfl, ag_a (ag_tr (ag_mono hC1.1 (by decide) (by decide)) (ag_mono hag2 (by decide) (by decide))) 7 _ (by decide), ?_, ?_, ?_⟩
      · rw [va_up_self, ej, e7]
      · rw [va_up_ne _ _ (by decide), hag2.2 9 (by decide)]; exact hC1.2.1
      · rw [va_up_ne _ _ (by decide), hag2.2 10 (by decide)]; exact hC1.2.2
    · refine r_iconst (pc := 32) (v := 3) dX8_judge_32 (by decide) ?_
      refine r_goto (pc := 33) (tgt := 37) dX8_judge_33 (by decide) ?_
      refine msn_7 (pc := 37) (a) hP ⟨rfl, ha20⟩ dX8_judge_37 ?_
      refine r_aload_n (pc := 38) dX8_judge_38 rfl rfl ?_
      refine mg_22 (pc := 39) hP rfl dX8_judge_39 ?_
      refine r_iload_n (pc := 42) dX8_judge_42 rfl rfl ?_
      refine mln_7 (pc := 43) (a) hP ⟨rfl, ha20⟩ dX8_judge_43 ?_
      refine r_iret (pc := 44) rfl rfl dX8_judge_44 ?_
      have e11 : ar2 11 = ar 11 := by rw [hag2.2 11 (by decide), hC1.1.2 11 (by decide)]
      have ej : (stJ (refU (fun j => cmpL (fun o => R (10 * (vv a + 1) + o)) a (ordO (fun o => R (10 * (vv a + 1) + o)) 6 0 []) (ar 9) (6 * a + j)) (fun o => R (10 * (vv a + 1) + o)) 6 4) (ar 11 a)) = 3 := by
        rw [stJ, if_neg (fun z => z (by rw [← hC1.2.1]; exact h16)), if_pos (by rw [← e11]; exact Int32.not_le.mp h29)]
      have e7 : ar2 7 = ar 7 := by rw [hag2.2 7 (by decide), hC1.1.2 7 (by decide)]
      refine ⟨by rw [va_up_self, upd_s, ej], _, _, rfl, ag_a (ag_tr (ag_mono hC1.1 (by decide) (by decide)) (ag_mono hag2 (by decide) (by decide))) 7 _ (by decide), ?_, ?_, ?_⟩
      · rw [va_up_self, ej, e7]
      · rw [va_up_ne _ _ (by decide), hag2.2 9 (by decide)]; exact hC1.2.1
      · rw [va_up_ne _ _ (by decide), hag2.2 10 (by decide)]; exact hC1.2.2
  · refine r_iconst (pc := 19) (v := 2) dX8_judge_19 (by decide) ?_
    refine r_goto (pc := 20) (tgt := 37) dX8_judge_20 (by decide) ?_
    refine msn_7 (pc := 37) (a) hP ⟨rfl, ha20⟩ dX8_judge_37 ?_
    refine r_aload_n (pc := 38) dX8_judge_38 rfl rfl ?_
    refine mg_22 (pc := 39) hP rfl dX8_judge_39 ?_
    refine r_iload_n (pc := 42) dX8_judge_42 rfl rfl ?_
    refine mln_7 (pc := 43) (a) hP ⟨rfl, ha20⟩ dX8_judge_43 ?_
    refine r_iret (pc := 44) rfl rfl dX8_judge_44 ?_
    have e11 : ar2 11 = ar 11 := by rw [hag2.2 11 (by decide), hC1.1.2 11 (by decide)]
    have ej : (stJ (refU (fun j => cmpL (fun o => R (10 * (vv a + 1) + o)) a (ordO (fun o => R (10 * (vv a + 1) + o)) 6 0 []) (ar 9) (6 * a + j)) (fun o => R (10 * (vv a + 1) + o)) 6 4) (ar 11 a)) = 2 := by
      rw [stJ, if_pos (show refU (fun j => cmpL (fun o => R (10 * (vv a + 1) + o)) a (ordO (fun o => R (10 * (vv a + 1) + o)) 6 0 []) (ar 9) (6 * a + j)) (fun o => R (10 * (vv a + 1) + o)) 6 4 ≠ -1 from by rw [← hC1.2.1]; exact h16)]
    have e7 : ar2 7 = ar 7 := by rw [hag2.2 7 (by decide), hC1.1.2 7 (by decide)]
    refine ⟨by rw [va_up_self, upd_s, ej], _, _, rfl, ag_a (ag_tr (ag_mono hC1.1 (by decide) (by decide)) (ag_mono hag2 (by decide) (by decide))) 7 _ (by decide), ?_, ?_, ?_⟩
    · rw [va_up_self, ej, e7]
    · rw [va_up_ne _ _ (by decide), hag2.2 9 (by decide)]; exact hC1.2.1
    · rw [va_up_ne _ _ (by decide), hag2.2 10 (by decide)]; exact hC1.2.2

set_option maxRecDepth 100000 in
set_option maxHeartbeats 4000000 in
theorem am_handIn {G : aw_G} {P T : List va_E} {sc : Nat → Int32} {ar : Nat → Nat → Int32} (hP : P.length = 12) {tn vn an : Nat} {R : Nat → List Int32} {vv : Nat → Nat} (hM : MI tn vn an R vv sc ar) (a : Nat) (ha : a < an) : AM G fX8_handIn [.ref 12, .int (nI a)] (mw P sc ar T) (qe P T (fun v sc2 ar2 => (¬ (ar 7 a = 0 ∧ (cntU (lackF ar R (vv a) a) 0 6) = 0) ∧ sc2 = upd sc 12 2 ∧ ar2 = ar) ∨ ((ar 7 a = 0 ∧ (cntU (lackF ar R (vv a) a) 0 6) = 0) ∧ ag [] [7, 9, 10, 21, 22] (upd sc 12 0) ar sc2 ar2 ∧ v = (stJ (refU (fun j => cmpL (fun o => R (10 * (vv a + 1) + o)) a (ordO (fun o => R (10 * (vv a + 1) + o)) 6 0 []) (ar 9) (6 * a + j)) (fun o => R (10 * (vv a + 1) + o)) 6 4) (ar 11 a)) ∧ ar2 7 = upd (ar 7) a (stJ (refU (fun j => cmpL (fun o => R (10 * (vv a + 1) + o)) a (ordO (fun o => R (10 * (vv a + 1) + o)) 6 0 []) (ar 9) (6 * a + j)) (fun o => R (10 * (vv a + 1) + o)) 6 4) (ar 11 a)) ∧ ar2 9 = cmpL (fun o => R (10 * (vv a + 1) + o)) a (ordO (fun o => R (10 * (vv a + 1) + o)) 6 0 []) (ar 9) ∧ ar2 10 = hasL a (ordO (fun o => R (10 * (vv a + 1) + o)) 6 0 []) (ar 10)))) := by
  refine AM_of (by decide) rfl rfl (Nat.le_of_ble_eq_true rfl) ?_
  show AW G fX8_handIn 0 0 (mw P sc ar T) 0 [some (.ref 12), some (.int (nI a))] [] _
  have hv := (hM.2.2.2.2.2.2.2 a ha).1
  have hvl : vv a < 10 := by have := (hM.2.2.2.2.2.2.2 a ha).2; have := hM.2.2.2.1; omega
  have ha20 : a < 20 := by have := hM.2.2.2.2.2.1; omega
  have hR := hM.2.2.2.2.2.2.1
  refine r_aload_n (pc := 0) dX8_handIn_0 rfl rfl ?_
  refine r_aload_n (pc := 1) dX8_handIn_1 rfl rfl ?_
  refine r_iload_n (pc := 2) dX8_handIn_2 rfl rfl ?_
  refine s_X8_199 (pc := 3) (kc' := 0) (ks' := 0) rfl rfl (am_isAnswer hP _) (mw_o hP) (Nat.le_of_ble_eq_true rfl) (Nat.le_of_ble_eq_true rfl) (Nat.le_of_ble_eq_true rfl) (Nat.le_of_ble_eq_true rfl) (by exact (Nat.le_of_ble_eq_true rfl)) rfl (List.forall_mem_cons.mpr ⟨rfl, (List.forall_mem_cons.mpr ⟨rfl, fun _ h => nomatch h⟩)⟩) rfl dX8_handIn_3 aw_kt (aw_kq ?_)
  refine r_if_ne (pc := 6) (tgt := 13) dX8_handIn_6 (by decide) (fun h6 => ?_) (fun h => absurd (bi_eq.mp h) (by rw [decide_eq_true (show (0 ≤ nI a ∧ nI a ≤ sc 6 - 1) from by rw [hM.2.2.2.2.1]; exact inV_of ha hM.2.2.2.2.2.1)]; decide))
  refine r_aload_n (pc := 13) dX8_handIn_13 rfl rfl ?_
  refine mg_22 (pc := 14) hP rfl dX8_handIn_14 ?_
  refine r_iload_n (pc := 17) dX8_handIn_17 rfl rfl ?_
  refine mln_7 (pc := 18) (a) hP ⟨rfl, ha20⟩ dX8_handIn_18 ?_
  refine r_if_ne (pc := 19) (tgt := 30) dX8_handIn_19 (by decide) (fun h19 => ?_) (fun h19 => ?_)
  · refine r_iconst (pc := 30) (v := 2) dX8_handIn_30 (by decide) ?_
    refine r_goto (pc := 31) (tgt := 35) dX8_handIn_31 (by decide) ?_
    refine mp_66 (pc := 35) hP rfl dX8_handIn_35 ?_
    refine r_aload_n (pc := 38) dX8_handIn_38 rfl rfl ?_
    refine mgv_66 (pc := 39) (x := 2) hP rfl rfl dX8_handIn_39 ?_
    refine r_if_ne (pc := 42) (tgt := 53) dX8_handIn_42 (by decide) (fun _ => ?_) (fun h => absurd h (by decide))
    refine r_iconst (pc := 53) (v := 0) dX8_handIn_53 (by decide) ?_
    refine r_iret (pc := 54) rfl rfl dX8_handIn_54 ?_
    exact ⟨0, _, _, rfl, rfl, Or.inl ⟨fun z => h19 z.1, rfl, rfl⟩⟩
  · refine r_aload_n (pc := 22) dX8_handIn_22 rfl rfl ?_
    refine r_iload_n (pc := 23) dX8_handIn_23 rfl rfl ?_
    refine s_X8_208 (pc := 24) (kc' := 0) (ks' := 0) rfl rfl (am_lacking hP hM a ha) (mw_o hP) (Nat.le_of_ble_eq_true rfl) (Nat.le_of_ble_eq_true rfl) (Nat.le_of_ble_eq_true rfl) (Nat.le_of_ble_eq_true rfl) (by exact (Nat.le_of_ble_eq_true rfl)) rfl (List.forall_mem_cons.mpr ⟨rfl, (List.forall_mem_cons.mpr ⟨rfl, fun _ h => nomatch h⟩)⟩) rfl dX8_handIn_24 aw_kt (aw_kq ?_)
    refine r_if_le (pc := 27) (tgt := 34) dX8_handIn_27 (by decide) (fun h27 => ?_) (fun h27 => ?_)
    · refine r_iconst (pc := 34) (v := 0) dX8_handIn_34 (by decide) ?_
      refine mp_66 (pc := 35) hP rfl dX8_handIn_35 ?_
      refine r_aload_n (pc := 38) dX8_handIn_38 rfl rfl ?_
      refine mgv_66 (pc := 39) (x := 0) hP rfl rfl dX8_handIn_39 ?_
      refine r_if_ne (pc := 42) (tgt := 53) dX8_handIn_42 (by decide) (fun h => absurd h (by decide)) (fun _ => ?_)
      refine r_aload_n (pc := 45) dX8_handIn_45 rfl rfl ?_
      refine r_iload_n (pc := 46) dX8_handIn_46 rfl rfl ?_
      refine s_X8_220 (pc := 47) (kc' := 0) (ks' := 0) rfl rfl (am_judge hP (fun its hi => hR its hi) a ha20 hvl hv) (mw_o hP) (Nat.le_of_ble_eq_true rfl) (Nat.le_of_ble_eq_true rfl) (Nat.le_of_ble_eq_true rfl) (Nat.le_of_ble_eq_true rfl) (by exact (Nat.le_of_ble_eq_true rfl)) rfl (List.forall_mem_cons.mpr ⟨rfl, (List.forall_mem_cons.mpr ⟨rfl, fun _ h => nomatch h⟩)⟩) rfl dX8_handIn_47 aw_kmt (aw_kmq (fun sc2 ar2 hC => ?_))
      refine r_goto (pc := 50) (tgt := 54) dX8_handIn_50 (by decide) ?_
      refine r_iret (pc := 54) rfl rfl dX8_handIn_54 ?_
      have h9 : (cntU (lackF ar R (vv a) a) 0 6) = 0 := by
        rcases Nat.eq_zero_or_pos (cntU (lackF ar R (vv a) a) 0 6) with z | z
        · exact z
        · exact absurd h27 (nI_nle z (by have := cntU_le (lackF ar R (vv a) a) 6 0; omega))
      exact ⟨_, _, _, rfl, rfl, Or.inr ⟨⟨h19, h9⟩, hC.1, rfl, hC.2.1, hC.2.2.1, hC.2.2.2⟩⟩
    · refine r_iconst (pc := 30) (v := 2) dX8_handIn_30 (by decide) ?_
      refine r_goto (pc := 31) (tgt := 35) dX8_handIn_31 (by decide) ?_
      refine mp_66 (pc := 35) hP rfl dX8_handIn_35 ?_
      refine r_aload_n (pc := 38) dX8_handIn_38 rfl rfl ?_
      refine mgv_66 (pc := 39) (x := 2) hP rfl rfl dX8_handIn_39 ?_
      refine r_if_ne (pc := 42) (tgt := 53) dX8_handIn_42 (by decide) (fun _ => ?_) (fun h => absurd h (by decide))
      refine r_iconst (pc := 53) (v := 0) dX8_handIn_53 (by decide) ?_
      refine r_iret (pc := 54) rfl rfl dX8_handIn_54 ?_
      exact ⟨0, _, _, rfl, rfl, Or.inl ⟨fun z => h27 (by rw [z.2]; decide), rfl, rfl⟩⟩

set_option maxRecDepth 100000 in
set_option maxHeartbeats 4000000 in
theorem am_refusal {G : aw_G} {P T : List va_E} {sc : Nat → Int32} {ar : Nat → Nat → Int32} (hP : P.length = 12) {tn vn an : Nat} {R : Nat → List Int32} {vv : Nat → Nat} (hM : MI tn vn an R vv sc ar) (a : Nat) (ha : a < an) : AM G fX8_refusal [.ref 12, .int (nI a)] (mw P sc ar T) (qe P T (fun v sc2 ar2 => (ar 7 a = 0 ∧ sc2 = upd sc 12 2 ∧ ar2 = ar) ∨ (ar 7 a ≠ 0 ∧ ag [] [21] (upd sc 12 0) ar sc2 ar2 ∧ v = (refU (fun j => ar 9 (6 * a + j)) (fun o => R (10 * (vv a + 1) + o)) 6 4)))) := by
  refine AM_of (by decide) rfl rfl (Nat.le_of_ble_eq_true rfl) ?_
  show AW G fX8_refusal 0 0 (mw P sc ar T) 0 [some (.ref 12), some (.int (nI a))] [] _
  have hv := (hM.2.2.2.2.2.2.2 a ha).1
  have hvl : vv a < 10 := by have := (hM.2.2.2.2.2.2.2 a ha).2; have := hM.2.2.2.1; omega
  have ha20 : a < 20 := by have := hM.2.2.2.2.2.1; omega
  have hR := hM.2.2.2.2.2.2.1
  refine r_aload_n (pc := 0) dX8_refusal_0 rfl rfl ?_
  refine r_aload_n (pc := 1) dX8_refusal_1 rfl rfl ?_
  refine r_iload_n (pc := 2) dX8_refusal_2 rfl rfl ?_
  refine s_X8_199 (pc := 3) (kc' := 0) (ks' := 0) rfl rfl (am_isAnswer hP _) (mw_o hP) (Nat.le_of_ble_eq_true rfl) (Nat.le_of_ble_eq_true rfl) (Nat.le_of_ble_eq_true rfl) (Nat.le_of_ble_eq_true rfl) (by exact (Nat.le_of_ble_eq_true rfl)) rfl (List.forall_mem_cons.mpr ⟨rfl, (List.forall_mem_cons.mpr ⟨rfl, fun _ h => nomatch h⟩)⟩) rfl dX8_refusal_3 aw_kt (aw_kq ?_)
  refine r_if_ne (pc := 6) (tgt := 13) dX8_refusal_6 (by decide) (fun h6 => ?_) (fun h => absurd (bi_eq.mp h) (by rw [decide_eq_true (show (0 ≤ nI a ∧ nI a ≤ sc 6 - 1) from by rw [hM.2.2.2.2.1]; exact inV_of ha hM.2.2.2.2.2.1)]; decide))
  refine r_aload_n (pc := 13) dX8_refusal_13 rfl rfl ?_
  refine mg_22 (pc := 14) hP rfl dX8_refusal_14 ?_
  refine r_iload_n (pc := 17) dX8_refusal_17 rfl rfl ?_
  refine mln_7 (pc := 18) (a) hP ⟨rfl, ha20⟩ dX8_refusal_18 ?_
  refine r_if_ne (pc := 19) (tgt := 26) dX8_refusal_19 (by decide) (fun h19 => ?_) (fun h19 => ?_)
  · refine r_iconst (pc := 26) (v := 0) dX8_refusal_26 (by decide) ?_
    refine mp_66 (pc := 27) hP rfl dX8_refusal_27 ?_
    refine r_aload_n (pc := 30) dX8_refusal_30 rfl rfl ?_
    refine mgv_66 (pc := 31) (x := 0) hP rfl rfl dX8_refusal_31 ?_
    refine r_if_ne (pc := 34) (tgt := 45) dX8_refusal_34 (by decide) (fun h => absurd h (by decide)) (fun _ => ?_)
    refine r_aload_n (pc := 37) dX8_refusal_37 rfl rfl ?_
    refine r_iload_n (pc := 38) dX8_refusal_38 rfl rfl ?_
    refine s_X8_217 (pc := 39) (kc' := 0) (ks' := 0) rfl rfl (am_refusing hP (fun its hi => hR its hi) a ha20 hvl hv) (mw_o hP) (Nat.le_of_ble_eq_true rfl) (Nat.le_of_ble_eq_true rfl) (Nat.le_of_ble_eq_true rfl) (Nat.le_of_ble_eq_true rfl) (by exact (Nat.le_of_ble_eq_true rfl)) rfl (List.forall_mem_cons.mpr ⟨rfl, (List.forall_mem_cons.mpr ⟨rfl, fun _ h => nomatch h⟩)⟩) rfl dX8_refusal_39 aw_kmt (aw_kmq (fun sc2 ar2 hC => ?_))
    refine r_goto (pc := 42) (tgt := 46) dX8_refusal_42 (by decide) ?_
    refine r_iret (pc := 46) rfl rfl dX8_refusal_46 ?_
    exact ⟨_, _, _, rfl, rfl, Or.inr ⟨h19, hC, rfl⟩⟩
  · refine r_iconst (pc := 22) (v := 2) dX8_refusal_22 (by decide) ?_
    refine r_goto (pc := 23) (tgt := 27) dX8_refusal_23 (by decide) ?_
    refine mp_66 (pc := 27) hP rfl dX8_refusal_27 ?_
    refine r_aload_n (pc := 30) dX8_refusal_30 rfl rfl ?_
    refine mgv_66 (pc := 31) (x := 2) hP rfl rfl dX8_refusal_31 ?_
    refine r_if_ne (pc := 34) (tgt := 45) dX8_refusal_34 (by decide) (fun _ => ?_) (fun h => absurd h (by decide))
    refine r_iconst (pc := 45) (v := 0) dX8_refusal_45 (by decide) ?_
    refine r_iret (pc := 46) rfl rfl dX8_refusal_46 ?_
    exact ⟨0, _, _, rfl, rfl, Or.inl ⟨h19, rfl, rfl⟩⟩

set_option maxRecDepth 100000 in
set_option maxHeartbeats 4000000 in
theorem am_amend {G : aw_G} {P T : List va_E} {sc : Nat → Int32} {ar : Nat → Nat → Int32} (hP : P.length = 12) {tn vn an : Nat} {R : Nat → List Int32} {vv : Nat → Nat} (hM : MI tn vn an R vv sc ar) (a : Nat) (ha : a < an) (f : Nat) (hf : f < 6) (x : Int32) : AM G fX8_amend [.ref 12, .int (nI a), .int (nI f), .int x] (mw P sc ar T) (qe P T (fun v sc2 ar2 => (¬ (ar 7 a = 3 ∧ canP ar R (vv a) f = true) ∧ sc2 = upd sc 12 2 ∧ ar2 = ar) ∨ ((ar 7 a = 3 ∧ canP ar R (vv a) f = true) ∧ ¬ rightP (ar 4 (6 * (vv a + 1) + f)) x = true ∧ sc2 = upd sc 12 3 ∧ ar2 = ar) ∨ ((ar 7 a = 3 ∧ canP ar R (vv a) f = true) ∧ rightP (ar 4 (6 * (vv a + 1) + f)) x = true ∧ ag [] [7, 9, 10, 11, 21, 22] (upd sc 12 0) ar sc2 ar2 ∧ v = (stJ (refU (fun j => (cmpL (fun o => R (10 * (vv a + 1) + o)) a (ordO (fun o => R (10 * (vv a + 1) + o)) 6 0 []) (upd (ar 9) (6 * a + f) x)) (6 * a + j)) (fun o => R (10 * (vv a + 1) + o)) 6 4) (ar 11 a &&& (b1 f ^^^ (-1)))) ∧ ar2 7 = upd (ar 7) a (stJ (refU (fun j => (cmpL (fun o => R (10 * (vv a + 1) + o)) a (ordO (fun o => R (10 * (vv a + 1) + o)) 6 0 []) (upd (ar 9) (6 * a + f) x)) (6 * a + j)) (fun o => R (10 * (vv a + 1) + o)) 6 4) (ar 11 a &&& (b1 f ^^^ (-1)))) ∧ ar2 9 = (cmpL (fun o => R (10 * (vv a + 1) + o)) a (ordO (fun o => R (10 * (vv a + 1) + o)) 6 0 []) (upd (ar 9) (6 * a + f) x)) ∧ ar2 10 = hasL a (ordO (fun o => R (10 * (vv a + 1) + o)) 6 0 []) (ar 10) ∧ ar2 11 = upd (ar 11) a (ar 11 a &&& (b1 f ^^^ (-1)))))) := by
  refine AM_of (by decide) rfl rfl (Nat.le_of_ble_eq_true rfl) ?_
  show AW G fX8_amend 0 0 (mw P sc ar T) 0 [some (.ref 12), some (.int (nI a)), some (.int (nI f)), some (.int x)] [] _
  have hv := (hM.2.2.2.2.2.2.2 a ha).1
  have hvl : vv a < 10 := by have := (hM.2.2.2.2.2.2.2 a ha).2; have := hM.2.2.2.1; omega
  have ha20 : a < 20 := by have := hM.2.2.2.2.2.1; omega
  have hR := hM.2.2.2.2.2.2.1
  refine r_aload_n (pc := 0) dX8_amend_0 rfl rfl ?_
  refine r_aload_n (pc := 1) dX8_amend_1 rfl rfl ?_
  refine r_iload_n (pc := 2) dX8_amend_2 rfl rfl ?_
  refine r_iload_n (pc := 3) dX8_amend_3 rfl rfl ?_
  refine s_X8_202 (pc := 4) (kc' := 0) (ks' := 0) rfl rfl (am_areOne hP _ _) (mw_o hP) (Nat.le_of_ble_eq_true rfl) (Nat.le_of_ble_eq_true rfl) (Nat.le_of_ble_eq_true rfl) (Nat.le_of_ble_eq_true rfl) (by exact (Nat.le_of_ble_eq_true rfl)) rfl (List.forall_mem_cons.mpr ⟨rfl, (List.forall_mem_cons.mpr ⟨rfl, (List.forall_mem_cons.mpr ⟨rfl, fun _ h => nomatch h⟩)⟩)⟩) rfl dX8_amend_4 aw_kt (aw_kq ?_)
  refine r_if_ne (pc := 7) (tgt := 14) dX8_amend_7 (by decide) (fun h7 => ?_) (fun h => absurd (bi_eq.mp h) (by rw [decide_eq_true (show (0 ≤ nI a ∧ nI a ≤ sc 6 - 1) ∧ (0 ≤ nI f ∧ nI f ≤ 5) from ⟨by rw [hM.2.2.2.2.1]; exact inV_of ha hM.2.2.2.2.2.1, inF_of hf⟩)]; decide))
  refine r_aload_n (pc := 14) dX8_amend_14 rfl rfl ?_
  refine mg_22 (pc := 15) hP rfl dX8_amend_15 ?_
  refine r_iload_n (pc := 18) dX8_amend_18 rfl rfl ?_
  refine mln_7 (pc := 19) (a) hP ⟨rfl, ha20⟩ dX8_amend_19 ?_
  refine r_iconst (pc := 20) (v := 3) dX8_amend_20 (by decide) ?_
  refine r_icmp_ne (pc := 21) (tgt := 33) dX8_amend_21 (by decide) (fun h21 => ?_) (fun h21 => ?_)
  · refine r_iconst (pc := 33) (v := 2) dX8_amend_33 (by decide) ?_
    refine r_goto (pc := 34) (tgt := 52) dX8_amend_34 (by decide) ?_
    refine mp_66 (pc := 52) hP rfl dX8_amend_52 ?_
    refine r_aload_n (pc := 55) dX8_amend_55 rfl rfl ?_
    refine mgv_66 (pc := 56) (x := 2) hP rfl rfl dX8_amend_56 ?_
    refine r_if_le (pc := 59) (tgt := 64) dX8_amend_59 (by decide) (fun h => absurd h (by decide)) (fun _ => ?_)
    refine r_iconst (pc := 62) (v := 0) dX8_amend_62 (by decide) ?_
    refine r_iret (pc := 63) rfl rfl dX8_amend_63 ?_
    exact ⟨0, _, _, rfl, rfl, Or.inl ⟨fun z => h21 z.1, rfl, rfl⟩⟩
  · refine r_aload_n (pc := 24) dX8_amend_24 rfl rfl ?_
    refine r_iload_n (pc := 25) dX8_amend_25 rfl rfl ?_
    refine r_iload_n (pc := 26) dX8_amend_26 rfl rfl ?_
    refine s_X8_196 (pc := 27) (kc' := 0) (ks' := 0) rfl rfl (am_canPut hP hM a ha f hf) (mw_o hP) (Nat.le_of_ble_eq_true rfl) (Nat.le_of_ble_eq_true rfl) (Nat.le_of_ble_eq_true rfl) (Nat.le_of_ble_eq_true rfl) (by exact (Nat.le_of_ble_eq_true rfl)) rfl (List.forall_mem_cons.mpr ⟨rfl, (List.forall_mem_cons.mpr ⟨rfl, (List.forall_mem_cons.mpr ⟨rfl, fun _ h => nomatch h⟩)⟩)⟩) rfl dX8_amend_27 aw_kt (aw_kq ?_)
    refine r_if_ne (pc := 30) (tgt := 37) dX8_amend_30 (by decide) (fun h30 => ?_) (fun h30 => ?_)
    · refine r_aload_n (pc := 37) dX8_amend_37 rfl rfl ?_
      refine r_iload_n (pc := 38) dX8_amend_38 rfl rfl ?_
      refine r_iload_n (pc := 39) dX8_amend_39 rfl rfl ?_
      refine r_iload_n (pc := 40) dX8_amend_40 rfl rfl ?_
      refine s_X8_205 (pc := 41) (kc' := 0) (ks' := 0) rfl rfl (am_isRight hP hM a ha f hf x) (mw_o hP) (Nat.le_of_ble_eq_true rfl) (Nat.le_of_ble_eq_true rfl) (Nat.le_of_ble_eq_true rfl) (Nat.le_of_ble_eq_true rfl) (by exact (Nat.le_of_ble_eq_true rfl)) rfl (List.forall_mem_cons.mpr ⟨rfl, (List.forall_mem_cons.mpr ⟨rfl, (List.forall_mem_cons.mpr ⟨rfl, (List.forall_mem_cons.mpr ⟨rfl, fun _ h => nomatch h⟩)⟩)⟩)⟩) rfl dX8_amend_41 aw_kt (aw_kq ?_)
      refine r_if_ne (pc := 44) (tgt := 51) dX8_amend_44 (by decide) (fun h44 => ?_) (fun h44 => ?_)
      · refine r_iconst (pc := 51) (v := 0) dX8_amend_51 (by decide) ?_
        refine mp_66 (pc := 52) hP rfl dX8_amend_52 ?_
        refine r_aload_n (pc := 55) dX8_amend_55 rfl rfl ?_
        refine mgv_66 (pc := 56) (x := 0) hP rfl rfl dX8_amend_56 ?_
        refine r_if_le (pc := 59) (tgt := 64) dX8_amend_59 (by decide) (fun _ => ?_) (fun h => absurd h (by decide))
        refine r_aload_n (pc := 64) dX8_amend_64 rfl rfl ?_
        refine mg_28 (pc := 65) hP rfl dX8_amend_65 ?_
        refine r_bipush (pc := 68) (v := 6) dX8_amend_68 (by decide) ?_
        refine r_iload_n (pc := 70) dX8_amend_70 rfl rfl ?_
        refine r_imul (pc := 71) dX8_amend_71 ?_
        refine r_iload_n (pc := 72) dX8_amend_72 rfl rfl ?_
        refine r_iadd (pc := 73) dX8_amend_73 ?_
        refine r_iload_n (pc := 74) dX8_amend_74 rfl rfl ?_
        refine msn_9 (pc := 75) (6 * a + f) hP ⟨by rw [n6, nI_add], by omega⟩ dX8_amend_75 ?_
        refine r_aload_n (pc := 76) dX8_amend_76 rfl rfl ?_
        refine mg_35 (pc := 77) hP rfl dX8_amend_77 ?_
        refine r_iload_n (pc := 80) dX8_amend_80 rfl rfl ?_
        refine r_dup2 (pc := 81) dX8_amend_81 rfl rfl ?_
        refine mln_11 (pc := 82) (a) hP ⟨rfl, ha20⟩ dX8_amend_82 ?_
        refine r_iconst (pc := 83) (v := 1) dX8_amend_83 (by decide) ?_
        refine r_iload_n (pc := 84) dX8_amend_84 rfl rfl ?_
        refine r_ishl (pc := 85) dX8_amend_85 ?_
        refine r_iconst (pc := 86) (v := -1) dX8_amend_86 (by decide) ?_
        refine r_ixor (pc := 87) dX8_amend_87 ?_
        refine r_iand (pc := 88) dX8_amend_88 ?_
        refine msn_11 (pc := 89) (a) hP ⟨rfl, ha20⟩ dX8_amend_89 ?_
        have hM2 := MI_ag hM (ag_a (ag_a (ag_s (ag_rf (Ks := [12]) (Ka := [9, 11]) (sc := sc) (ar := ar)) 12 0 (by decide)) 9 (upd (ar 9) (6 * a + f) x) (by decide)) 11 (upd (ar 11) a (ar 11 a &&& (b1 f ^^^ (-1)))) (by decide)) (by decide) (by decide)
        refine r_aload_n (pc := 90) dX8_amend_90 rfl rfl ?_
        refine r_iload_n (pc := 91) dX8_amend_91 rfl rfl ?_
        refine s_X8_220 (pc := 92) (kc' := 0) (ks' := 0) rfl rfl (am_judge hP hM2.2.2.2.2.2.2.1 a ha20 hvl (hM2.2.2.2.2.2.2.2 a ha).1) (mw_o hP) (Nat.le_of_ble_eq_true rfl) (Nat.le_of_ble_eq_true rfl) (Nat.le_of_ble_eq_true rfl) (Nat.le_of_ble_eq_true rfl) (by exact (Nat.le_of_ble_eq_true rfl)) rfl (List.forall_mem_cons.mpr ⟨rfl, (List.forall_mem_cons.mpr ⟨rfl, fun _ h => nomatch h⟩)⟩) rfl dX8_amend_92 aw_kmt (aw_kmq (fun sc2 ar2 hC => ?_))
        refine r_iret (pc := 95) rfl rfl dX8_amend_95 ?_
        obtain ⟨c1, c2, c3, c4⟩ := hC
        refine ⟨_, _, _, rfl, rfl, Or.inr (Or.inr ⟨⟨h21, bi_ne.mp h30⟩, bi_ne.mp h44, ?_, ?_, ?_, ?_, ?_, ?_⟩)⟩
        · exact ag_tr (ag_a (ag_a ag_rf 9 (upd (ar 9) (6 * a + f) x) (by decide)) 11 _ (by decide)) (ag_mono c1 (by decide) (by decide))
        · simp [va_up, upd_s]
        · rw [c2]
          simp [va_up, upd_s]
        · rw [c3, va_up_ne _ _ (by decide), va_up_self]
        · rw [c4, va_up_ne _ _ (by decide), va_up_ne _ _ (by decide)]
        · rw [c1.2 11 (by decide), va_up_self]
      · refine r_iconst (pc := 47) (v := 3) dX8_amend_47 (by decide) ?_
        refine r_goto (pc := 48) (tgt := 52) dX8_amend_48 (by decide) ?_
        refine mp_66 (pc := 52) hP rfl dX8_amend_52 ?_
        refine r_aload_n (pc := 55) dX8_amend_55 rfl rfl ?_
        refine mgv_66 (pc := 56) (x := 3) hP rfl rfl dX8_amend_56 ?_
        refine r_if_le (pc := 59) (tgt := 64) dX8_amend_59 (by decide) (fun h => absurd h (by decide)) (fun _ => ?_)
        refine r_iconst (pc := 62) (v := 0) dX8_amend_62 (by decide) ?_
        refine r_iret (pc := 63) rfl rfl dX8_amend_63 ?_
        exact ⟨0, _, _, rfl, rfl, Or.inr (Or.inl ⟨⟨h21, bi_ne.mp h30⟩, fun z => absurd z (by rw [bi_eq.mp h44]; decide), rfl, rfl⟩)⟩
    · refine r_iconst (pc := 33) (v := 2) dX8_amend_33 (by decide) ?_
      refine r_goto (pc := 34) (tgt := 52) dX8_amend_34 (by decide) ?_
      refine mp_66 (pc := 52) hP rfl dX8_amend_52 ?_
      refine r_aload_n (pc := 55) dX8_amend_55 rfl rfl ?_
      refine mgv_66 (pc := 56) (x := 2) hP rfl rfl dX8_amend_56 ?_
      refine r_if_le (pc := 59) (tgt := 64) dX8_amend_59 (by decide) (fun h => absurd h (by decide)) (fun _ => ?_)
      refine r_iconst (pc := 62) (v := 0) dX8_amend_62 (by decide) ?_
      refine r_iret (pc := 63) rfl rfl dX8_amend_63 ?_
      exact ⟨0, _, _, rfl, rfl, Or.inl ⟨fun z => absurd z.2 (by rw [bi_eq.mp h30]; decide), rfl, rfl⟩⟩

set_option maxRecDepth 100000 in
set_option maxHeartbeats 4000000 in
theorem am_typeInX {G : aw_G} {P T : List va_E} {sc : Nat → Int32} {ar : Nat → Nat → Int32} (hP : P.length = 12) (x f : Int32) (hb : ¬ ((0 ≤ x ∧ x ≤ sc 5 - 1) ∧ (0 ≤ f ∧ f ≤ 5))) : AM G fX8_typeIn [.ref 12, .int x, .int f] (mw P sc ar T) (qe P T (fun v sc2 ar2 => sc2 = upd sc 12 1 ∧ ar2 = ar)) := by
  refine AM_of (by decide) rfl rfl (Nat.le_of_ble_eq_true rfl) ?_
  show AW G fX8_typeIn 0 0 (mw P sc ar T) 0 [some (.ref 12), some (.int x), some (.int f)] [] _
  refine r_aload_n (pc := 0) dX8_typeIn_0 rfl rfl ?_
  refine r_aload_n (pc := 1) dX8_typeIn_1 rfl rfl ?_
  refine r_iload_n (pc := 2) dX8_typeIn_2 rfl rfl ?_
  refine s_X8_172 (pc := 3) (kc' := 0) (ks' := 0) rfl rfl (am_isVersion hP _) (mw_o hP) (Nat.le_of_ble_eq_true rfl) (Nat.le_of_ble_eq_true rfl) (Nat.le_of_ble_eq_true rfl) (Nat.le_of_ble_eq_true rfl) (by exact (Nat.le_of_ble_eq_true rfl)) rfl (List.forall_mem_cons.mpr ⟨rfl, (List.forall_mem_cons.mpr ⟨rfl, fun _ h => nomatch h⟩)⟩) rfl dX8_typeIn_3 aw_kt (aw_kq ?_)
  refine r_if_eq (pc := 6) (tgt := 20) dX8_typeIn_6 (by decide) (fun h6 => ?_) (fun h6 => ?_)
  · refine r_iconst (pc := 20) (v := 1) dX8_typeIn_20 (by decide) ?_
    refine mp_66 (pc := 21) hP rfl dX8_typeIn_21 ?_
    refine r_aload_n (pc := 24) dX8_typeIn_24 rfl rfl ?_
    refine mgv_66 (pc := 25) (x := 1) hP rfl rfl dX8_typeIn_25 ?_
    refine r_if_ne (pc := 28) (tgt := 40) dX8_typeIn_28 (by decide) (fun _ => ?_) (fun h => absurd h (by decide))
    refine r_iconst (pc := 40) (v := 0) dX8_typeIn_40 (by decide) ?_
    refine r_iret (pc := 41) rfl rfl dX8_typeIn_41 ?_
    exact ⟨0, _, _, rfl, rfl, rfl, rfl⟩
  · refine r_iload_n (pc := 9) dX8_typeIn_9 rfl rfl ?_
    refine s_X8_139 (pc := 10) (kc' := 0) (ks' := 0) rfl rfl (am_isField _)  (Nat.le_of_ble_eq_true rfl) (Nat.le_of_ble_eq_true rfl) (Nat.le_of_ble_eq_true rfl) (Nat.le_of_ble_eq_true rfl) (by exact (Nat.le_of_ble_eq_true rfl)) rfl (List.forall_mem_cons.mpr ⟨rfl, fun _ h => nomatch h⟩) rfl dX8_typeIn_10 aw_kt (aw_kq ?_)
    refine r_if_eq (pc := 13) (tgt := 20) dX8_typeIn_13 (by decide) (fun h13 => ?_) (fun h => absurd ⟨of_decide_eq_true (bi_ne.mp h6), of_decide_eq_true (bi_ne.mp h)⟩ hb)
    refine r_iconst (pc := 20) (v := 1) dX8_typeIn_20 (by decide) ?_
    refine mp_66 (pc := 21) hP rfl dX8_typeIn_21 ?_
    refine r_aload_n (pc := 24) dX8_typeIn_24 rfl rfl ?_
    refine mgv_66 (pc := 25) (x := 1) hP rfl rfl dX8_typeIn_25 ?_
    refine r_if_ne (pc := 28) (tgt := 40) dX8_typeIn_28 (by decide) (fun _ => ?_) (fun h => absurd h (by decide))
    refine r_iconst (pc := 40) (v := 0) dX8_typeIn_40 (by decide) ?_
    refine r_iret (pc := 41) rfl rfl dX8_typeIn_41 ?_
    exact ⟨0, _, _, rfl, rfl, rfl, rfl⟩

set_option maxRecDepth 100000 in
set_option maxHeartbeats 4000000 in
theorem am_typeIn {G : aw_G} {P T : List va_E} {sc : Nat → Int32} {ar : Nat → Nat → Int32} (hP : P.length = 12) {tn vn an : Nat} {R : Nat → List Int32} {vv : Nat → Nat} (hM : MI tn vn an R vv sc ar) (v f : Nat) (hv : v < vn) (hf : f < 6) : AM G fX8_typeIn [.ref 12, .int (nI v), .int (nI f)] (mw P sc ar T) (qe P T (fun r sc2 ar2 => sc2 = upd sc 12 0 ∧ ar2 = ar ∧ r = ar 4 (6 * (v + 1) + f))) := by
  refine AM_of (by decide) rfl rfl (Nat.le_of_ble_eq_true rfl) ?_
  show AW G fX8_typeIn 0 0 (mw P sc ar T) 0 [some (.ref 12), some (.int (nI v)), some (.int (nI f))] [] _
  have hv10 : v < 10 := by have := hM.2.2.2.1; omega
  refine r_aload_n (pc := 0) dX8_typeIn_0 rfl rfl ?_
  refine r_aload_n (pc := 1) dX8_typeIn_1 rfl rfl ?_
  refine r_iload_n (pc := 2) dX8_typeIn_2 rfl rfl ?_
  refine s_X8_172 (pc := 3) (kc' := 0) (ks' := 0) rfl rfl (am_isVersion hP _) (mw_o hP) (Nat.le_of_ble_eq_true rfl) (Nat.le_of_ble_eq_true rfl) (Nat.le_of_ble_eq_true rfl) (Nat.le_of_ble_eq_true rfl) (by exact (Nat.le_of_ble_eq_true rfl)) rfl (List.forall_mem_cons.mpr ⟨rfl, (List.forall_mem_cons.mpr ⟨rfl, fun _ h => nomatch h⟩)⟩) rfl dX8_typeIn_3 aw_kt (aw_kq ?_)
  refine r_if_eq (pc := 6) (tgt := 20) dX8_typeIn_6 (by decide) (fun h => absurd (bi_eq.mp h) (by rw [decide_eq_true (show (0 ≤ nI v ∧ nI v ≤ sc 5 - 1) from by rw [hM.2.2.1]; exact inV_of hv (by have := hM.2.2.2.1; omega))]; decide)) (fun h6 => ?_)
  refine r_iload_n (pc := 9) dX8_typeIn_9 rfl rfl ?_
  refine s_X8_139 (pc := 10) (kc' := 0) (ks' := 0) rfl rfl (am_isField _)  (Nat.le_of_ble_eq_true rfl) (Nat.le_of_ble_eq_true rfl) (Nat.le_of_ble_eq_true rfl) (Nat.le_of_ble_eq_true rfl) (by exact (Nat.le_of_ble_eq_true rfl)) rfl (List.forall_mem_cons.mpr ⟨rfl, fun _ h => nomatch h⟩) rfl dX8_typeIn_10 aw_kt (aw_kq ?_)
  refine r_if_eq (pc := 13) (tgt := 20) dX8_typeIn_13 (by decide) (fun h => absurd (bi_eq.mp h) (by rw [decide_eq_true (inF_of hf)]; decide)) (fun h13 => ?_)
  refine r_iconst (pc := 16) (v := 0) dX8_typeIn_16 (by decide) ?_
  refine r_goto (pc := 17) (tgt := 21) dX8_typeIn_17 (by decide) ?_
  refine mp_66 (pc := 21) hP rfl dX8_typeIn_21 ?_
  refine r_aload_n (pc := 24) dX8_typeIn_24 rfl rfl ?_
  refine mgv_66 (pc := 25) (x := 0) hP rfl rfl dX8_typeIn_25 ?_
  refine r_if_ne (pc := 28) (tgt := 40) dX8_typeIn_28 (by decide) (fun h => absurd h (by decide)) (fun _ => ?_)
  refine r_aload_n (pc := 31) dX8_typeIn_31 rfl rfl ?_
  refine r_iload_n (pc := 32) dX8_typeIn_32 rfl rfl ?_
  refine r_iload_n (pc := 33) dX8_typeIn_33 rfl rfl ?_
  refine s_X8_155 (pc := 34) (kc' := 0) (ks' := 0) rfl rfl (am_typeAt hP v f (by omega) hf) (mw_o hP) (Nat.le_of_ble_eq_true rfl) (Nat.le_of_ble_eq_true rfl) (Nat.le_of_ble_eq_true rfl) (Nat.le_of_ble_eq_true rfl) (by exact (Nat.le_of_ble_eq_true rfl)) rfl (List.forall_mem_cons.mpr ⟨rfl, (List.forall_mem_cons.mpr ⟨rfl, (List.forall_mem_cons.mpr ⟨rfl, fun _ h => nomatch h⟩)⟩)⟩) rfl dX8_typeIn_34 aw_kt (aw_kq ?_)
  refine r_goto (pc := 37) (tgt := 41) dX8_typeIn_37 (by decide) ?_
  refine r_iret (pc := 41) rfl rfl dX8_typeIn_41 ?_
  exact ⟨_, _, _, rfl, rfl, rfl, rfl, rfl⟩

set_option maxRecDepth 100000 in
set_option maxHeartbeats 4000000 in
theorem am_orderX {G : aw_G} {P T : List va_E} {sc : Nat → Int32} {ar : Nat → Nat → Int32} (hP : P.length = 12) (x f : Int32) (hb : ¬ ((0 ≤ x ∧ x ≤ sc 5 - 1) ∧ 0 ≤ f)) : AM G fX8_order [.ref 12, .int x, .int f] (mw P sc ar T) (qe P T (fun v sc2 ar2 => sc2 = upd sc 12 1 ∧ ar2 = ar)) := by
  refine AM_of (by decide) rfl rfl (Nat.le_of_ble_eq_true rfl) ?_
  show AW G fX8_order 0 0 (mw P sc ar T) 0 [some (.ref 12), some (.int x), some (.int f), none] [] _
  refine r_aload_n (pc := 0) dX8_order_0 rfl rfl ?_
  refine r_aload_n (pc := 1) dX8_order_1 rfl rfl ?_
  refine r_iload_n (pc := 2) dX8_order_2 rfl rfl ?_
  refine s_X8_172 (pc := 3) (kc' := 0) (ks' := 0) rfl rfl (am_isVersion hP _) (mw_o hP) (Nat.le_of_ble_eq_true rfl) (Nat.le_of_ble_eq_true rfl) (Nat.le_of_ble_eq_true rfl) (Nat.le_of_ble_eq_true rfl) (by exact (Nat.le_of_ble_eq_true rfl)) rfl (List.forall_mem_cons.mpr ⟨rfl, (List.forall_mem_cons.mpr ⟨rfl, fun _ h => nomatch h⟩)⟩) rfl dX8_order_3 aw_kt (aw_kq ?_)
  refine r_if_eq (pc := 6) (tgt := 17) dX8_order_6 (by decide) (fun h6 => ?_) (fun h6 => ?_)
  · refine r_iconst (pc := 17) (v := 1) dX8_order_17 (by decide) ?_
    refine mp_66 (pc := 18) hP rfl dX8_order_18 ?_
    refine r_aload_n (pc := 21) dX8_order_21 rfl rfl ?_
    refine mgv_66 (pc := 22) (x := 1) hP rfl rfl dX8_order_22 ?_
    refine r_if_le (pc := 25) (tgt := 30) dX8_order_25 (by decide) (fun h => absurd h (by decide)) (fun _ => ?_)
    refine r_iconst (pc := 28) (v := 0) dX8_order_28 (by decide) ?_
    refine r_iret (pc := 29) rfl rfl dX8_order_29 ?_
    exact ⟨0, _, _, rfl, rfl, rfl, rfl⟩
  · refine r_iload_n (pc := 9) dX8_order_9 rfl rfl ?_
    refine r_if_lt (pc := 10) (tgt := 17) dX8_order_10 (by decide) (fun h10 => ?_) (fun h => absurd ⟨of_decide_eq_true (bi_ne.mp h6), Int32.not_lt.mp h⟩ hb)
    refine r_iconst (pc := 17) (v := 1) dX8_order_17 (by decide) ?_
    refine mp_66 (pc := 18) hP rfl dX8_order_18 ?_
    refine r_aload_n (pc := 21) dX8_order_21 rfl rfl ?_
    refine mgv_66 (pc := 22) (x := 1) hP rfl rfl dX8_order_22 ?_
    refine r_if_le (pc := 25) (tgt := 30) dX8_order_25 (by decide) (fun h => absurd h (by decide)) (fun _ => ?_)
    refine r_iconst (pc := 28) (v := 0) dX8_order_28 (by decide) ?_
    refine r_iret (pc := 29) rfl rfl dX8_order_29 ?_
    exact ⟨0, _, _, rfl, rfl, rfl, rfl⟩

set_option maxRecDepth 100000 in
set_option maxHeartbeats 4000000 in
theorem am_order {G : aw_G} {P T : List va_E} {sc : Nat → Int32} {ar : Nat → Nat → Int32} (hP : P.length = 12) {tn vn an : Nat} {R : Nat → List Int32} {vv : Nat → Nat} (hM : MI tn vn an R vv sc ar) (v : Nat) (hv : v < vn) (f : Int32) (hf : 0 ≤ f) : AM G fX8_order [.ref 12, .int (nI v), .int f] (mw P sc ar T) (qe P T (fun r sc2 ar2 => ag [] [22] (upd sc 12 0) ar sc2 ar2 ∧ r = (((ordO (fun o => R (10 * (v + 1) + o)) 6 0 [])[f.toNatClampNeg]?).map nI).getD (-1))) := by
  refine AM_of (by decide) rfl rfl (Nat.le_of_ble_eq_true rfl) ?_
  show AW G fX8_order 0 0 (mw P sc ar T) 0 [some (.ref 12), some (.int (nI v)), some (.int f), none] [] _
  have hv10 : v < 10 := by have := hM.2.2.2.1; omega
  have hol := ordO_len (R6 := (fun o => R (10 * (v + 1) + o))) 6 0 []
  simp only [List.length_nil, Nat.zero_add] at hol
  refine r_aload_n (pc := 0) dX8_order_0 rfl rfl ?_
  refine r_aload_n (pc := 1) dX8_order_1 rfl rfl ?_
  refine r_iload_n (pc := 2) dX8_order_2 rfl rfl ?_
  refine s_X8_172 (pc := 3) (kc' := 0) (ks' := 0) rfl rfl (am_isVersion hP _) (mw_o hP) (Nat.le_of_ble_eq_true rfl) (Nat.le_of_ble_eq_true rfl) (Nat.le_of_ble_eq_true rfl) (Nat.le_of_ble_eq_true rfl) (by exact (Nat.le_of_ble_eq_true rfl)) rfl (List.forall_mem_cons.mpr ⟨rfl, (List.forall_mem_cons.mpr ⟨rfl, fun _ h => nomatch h⟩)⟩) rfl dX8_order_3 aw_kt (aw_kq ?_)
  refine r_if_eq (pc := 6) (tgt := 17) dX8_order_6 (by decide) (fun h => absurd (bi_eq.mp h) (by rw [decide_eq_true (show (0 ≤ nI v ∧ nI v ≤ sc 5 - 1) from by rw [hM.2.2.1]; exact inV_of hv (by have := hM.2.2.2.1; omega))]; decide)) (fun h6 => ?_)
  refine r_iload_n (pc := 9) dX8_order_9 rfl rfl ?_
  refine r_if_lt (pc := 10) (tgt := 17) dX8_order_10 (by decide) (fun h => absurd h (Int32.not_lt.mpr hf)) (fun h10 => ?_)
  refine r_iconst (pc := 13) (v := 0) dX8_order_13 (by decide) ?_
  refine r_goto (pc := 14) (tgt := 18) dX8_order_14 (by decide) ?_
  refine mp_66 (pc := 18) hP rfl dX8_order_18 ?_
  refine r_aload_n (pc := 21) dX8_order_21 rfl rfl ?_
  refine mgv_66 (pc := 22) (x := 0) hP rfl rfl dX8_order_22 ?_
  refine r_if_le (pc := 25) (tgt := 30) dX8_order_25 (by decide) (fun _ => ?_) (fun h => absurd h (by decide))
  refine r_aload_n (pc := 30) dX8_order_30 rfl rfl ?_
  refine r_iload_n (pc := 31) dX8_order_31 rfl rfl ?_
  refine s_X8_178 (pc := 32) (kc' := 0) (ks' := 0) rfl rfl (am_layOrder hP (fun its hi => hM.2.2.2.2.2.2.1 its hi) v hv10) (mw_o hP) (Nat.le_of_ble_eq_true rfl) (Nat.le_of_ble_eq_true rfl) (Nat.le_of_ble_eq_true rfl) (Nat.le_of_ble_eq_true rfl) (by exact (Nat.le_of_ble_eq_true rfl)) rfl (List.forall_mem_cons.mpr ⟨rfl, (List.forall_mem_cons.mpr ⟨rfl, fun _ h => nomatch h⟩)⟩) rfl dX8_order_32 aw_kmt (aw_kmq (fun sc2 ar2 hC => ?_))
  refine r_istore_n (pc := 35) dX8_order_35 rfl (Nat.le_of_ble_eq_true rfl) rfl ?_
  refine r_iload_n (pc := 36) dX8_order_36 rfl rfl ?_
  refine r_iload_n (pc := 37) dX8_order_37 rfl rfl ?_
  refine r_icmp_ge (pc := 38) (tgt := 50) dX8_order_38 (by decide) (fun h38 => ?_) (fun h38 => ?_)
  · refine r_iconst (pc := 50) (v := -1) dX8_order_50 (by decide) ?_
    refine r_iret (pc := 51) rfl rfl dX8_order_51 ?_
    have h9 : (ordO (fun o => R (10 * (v + 1) + o)) 6 0 []).length ≤ f.toNatClampNeg := by
      obtain ⟨j, hj, rfl⟩ := nI_of (Int32.not_lt.mpr hf)
      rw [nI_clamp hj]
      exact (nI_leI (by omega) hj).mp h38
    refine ⟨_, _, _, rfl, rfl, ag_mono hC.1 (by decide) (by decide), ?_⟩
    rw [List.getElem?_eq_none h9]
    rfl
  · have hfl : f.toNatClampNeg < (ordO (fun o => R (10 * (v + 1) + o)) 6 0 []).length := by
      obtain ⟨j, hj, hfj⟩ := nI_of (Int32.not_lt.mpr hf)
      rw [hfj, nI_clamp hj]
      rw [hfj] at h38
      exact Nat.lt_of_not_le (fun z => h38 (nI_le z hj))
    refine r_aload_n (pc := 41) dX8_order_41 rfl rfl ?_
    refine mg_53 (pc := 42) hP rfl dX8_order_42 ?_
    refine r_iload_n (pc := 45) dX8_order_45 rfl rfl ?_
    refine mln_22 (pc := 46) (f.toNatClampNeg) hP ⟨by obtain ⟨j, hj, hfj⟩ := nI_of (Int32.not_lt.mpr hf); rw [hfj, nI_clamp hj], by omega⟩ dX8_order_46 ?_
    refine r_goto (pc := 47) (tgt := 51) dX8_order_47 (by decide) ?_
    refine r_iret (pc := 51) rfl rfl dX8_order_51 ?_
    refine ⟨_, _, _, rfl, rfl, ag_mono hC.1 (by decide) (by decide), ?_⟩
    have h8 : (ordO (fun o => R (10 * (v + 1) + o)) 6 0 [])[f.toNatClampNeg]? = some (ordO (fun o => R (10 * (v + 1) + o)) 6 0 [])[f.toNatClampNeg] := List.getElem?_eq_getElem hfl
    rw [hC.2 _ _ h8, h8]
    rfl

end M9
