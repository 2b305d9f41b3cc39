/-! ===== the reference: the text and the draft ===== -/
section M5
theorem mgv_102 {G : aw_G} {F : aw_F} {kc ks : Nat} {pc : Nat} {loc : List (Option Value)} {st : List Value} {Q : aw_R → List va_E → Prop} {P T : List va_E} {sc : Nat → Int32} {ar : Nat → Nat → Int32} {x : Int32} (hP : P.length = 12) (hF : aw_own F = RX8) (hx : sc 20 = x) (hdg : decode (aw_c F) pc = .ok (.getfield 102, 3)) (kk : AW G F kc ks (mw P sc ar T) (pc + 3) loc (.int x :: st) Q) : AW G F kc ks (mw P sc ar T) pc loc (.ref 12 :: st) Q := mg_102 hP hF hdg (by rw [hx]; exact kk)
theorem mgv_162 {G : aw_G} {F : aw_F} {kc ks : Nat} {pc : Nat} {loc : List (Option Value)} {st : List Value} {Q : aw_R → List va_E → Prop} {P T : List va_E} {sc : Nat → Int32} {ar : Nat → Nat → Int32} {x : Int32} (hP : P.length = 12) (hF : aw_own F = RX8) (hx : sc 5 = x) (hdg : decode (aw_c F) pc = .ok (.getfield 162, 3)) (kk : AW G F kc ks (mw P sc ar T) (pc + 3) loc (.int x :: st) Q) : AW G F kc ks (mw P sc ar T) pc loc (.ref 12 :: st) Q := mg_162 hP hF hdg (by rw [hx]; exact kk)
theorem mgv_165 {G : aw_G} {F : aw_F} {kc ks : Nat} {pc : Nat} {loc : List (Option Value)} {st : List Value} {Q : aw_R → List va_E → Prop} {P T : List va_E} {sc : Nat → Int32} {ar : Nat → Nat → Int32} {x : Int32} (hP : P.length = 12) (hF : aw_own F = RX8) (hx : sc 6 = x) (hdg : decode (aw_c F) pc = .ok (.getfield 165, 3)) (kk : AW G F kc ks (mw P sc ar T) (pc + 3) loc (.int x :: st) Q) : AW G F kc ks (mw P sc ar T) pc loc (.ref 12 :: st) Q := mg_165 hP hF hdg (by rw [hx]; exact kk)
theorem mgv_181 {G : aw_G} {F : aw_F} {kc ks : Nat} {pc : Nat} {loc : List (Option Value)} {st : List Value} {Q : aw_R → List va_E → Prop} {P T : List va_E} {sc : Nat → Int32} {ar : Nat → Nat → Int32} {x : Int32} (hP : P.length = 12) (hF : aw_own F = RX8) (hx : sc 24 = x) (hdg : decode (aw_c F) pc = .ok (.getfield 181, 3)) (kk : AW G F kc ks (mw P sc ar T) (pc + 3) loc (.int x :: st) Q) : AW G F kc ks (mw P sc ar T) pc loc (.ref 12 :: st) Q := mg_181 hP hF hdg (by rw [hx]; exact kk)
theorem mgv_62 {G : aw_G} {F : aw_F} {kc ks : Nat} {pc : Nat} {loc : List (Option Value)} {st : List Value} {Q : aw_R → List va_E → Prop} {P T : List va_E} {sc : Nat → Int32} {ar : Nat → Nat → Int32} {x : Int32} (hP : P.length = 12) (hF : aw_own F = RX8) (hx : sc 1 = x) (hdg : decode (aw_c F) pc = .ok (.getfield 62, 3)) (kk : AW G F kc ks (mw P sc ar T) (pc + 3) loc (.int x :: st) Q) : AW G F kc ks (mw P sc ar T) pc loc (.ref 12 :: st) Q := mg_62 hP hF hdg (by rw [hx]; exact kk)
theorem mgv_66 {G : aw_G} {F : aw_F} {kc ks : Nat} {pc : Nat} {loc : List (Option Value)} {st : List Value} {Q : aw_R → List va_E → Prop} {P T : List va_E} {sc : Nat → Int32} {ar : Nat → Nat → Int32} {x : Int32} (hP : P.length = 12) (hF : aw_own F = RX8) (hx : sc 12 = x) (hdg : decode (aw_c F) pc = .ok (.getfield 66, 3)) (kk : AW G F kc ks (mw P sc ar T) (pc + 3) loc (.int x :: st) Q) : AW G F kc ks (mw P sc ar T) pc loc (.ref 12 :: st) Q := mg_66 hP hF hdg (by rw [hx]; exact kk)
theorem mgv_73 {G : aw_G} {F : aw_F} {kc ks : Nat} {pc : Nat} {loc : List (Option Value)} {st : List Value} {Q : aw_R → List va_E → Prop} {P T : List va_E} {sc : Nat → Int32} {ar : Nat → Nat → Int32} {x : Int32} (hP : P.length = 12) (hF : aw_own F = RX8) (hx : sc 14 = x) (hdg : decode (aw_c F) pc = .ok (.getfield 73, 3)) (kk : AW G F kc ks (mw P sc ar T) (pc + 3) loc (.int x :: st) Q) : AW G F kc ks (mw P sc ar T) pc loc (.ref 12 :: st) Q := mg_73 hP hF hdg (by rw [hx]; exact kk)
theorem mgv_76 {G : aw_G} {F : aw_F} {kc ks : Nat} {pc : Nat} {loc : List (Option Value)} {st : List Value} {Q : aw_R → List va_E → Prop} {P T : List va_E} {sc : Nat → Int32} {ar : Nat → Nat → Int32} {x : Int32} (hP : P.length = 12) (hF : aw_own F = RX8) (hx : sc 16 = x) (hdg : decode (aw_c F) pc = .ok (.getfield 76, 3)) (kk : AW G F kc ks (mw P sc ar T) (pc + 3) loc (.int x :: st) Q) : AW G F kc ks (mw P sc ar T) pc loc (.ref 12 :: st) Q := mg_76 hP hF hdg (by rw [hx]; exact kk)
theorem mgv_99 {G : aw_G} {F : aw_F} {kc ks : Nat} {pc : Nat} {loc : List (Option Value)} {st : List Value} {Q : aw_R → List va_E → Prop} {P T : List va_E} {sc : Nat → Int32} {ar : Nat → Nat → Int32} {x : Int32} (hP : P.length = 12) (hF : aw_own F = RX8) (hx : sc 18 = x) (hdg : decode (aw_c F) pc = .ok (.getfield 99, 3)) (kk : AW G F kc ks (mw P sc ar T) (pc + 3) loc (.int x :: st) Q) : AW G F kc ks (mw P sc ar T) pc loc (.ref 12 :: st) Q := mg_99 hP hF hdg (by rw [hx]; exact kk)
theorem am_type {G : aw_G} {P T : List va_E} {sc : Nat → Int32} {ar : Nat → Nat → Int32} (hP : P.length = 12) (c : Int32) {tn : Nat} (ht : sc 1 = nI tn) (htn : tn ≤ 40) : AM G fX8_type [.ref 12, .int c] (mw P sc ar T) (fun r w' => (tn = 40 ∧ r = .inl (some (.int 0)) ∧ w' = mw P (upd sc 12 1) ar T) ∨ (tn ≠ 40 ∧ r = .inl (some (.int (nI (tn + 1)))) ∧ w' = mw P (upd (upd sc 12 0) 1 (nI (tn + 1))) (va_up ar 0 (upd (ar 0) tn c)) T)) := by
  refine AM_of (by decide) rfl rfl (Nat.le_of_ble_eq_true rfl) ?_
  show AW G fX8_type 0 0 (mw P sc ar T) 0 [some (.ref 12), some (.int c)] [] _
  refine r_aload_n (pc := 0) dX8_type_0 rfl rfl ?_
  refine r_aload_n (pc := 1) dX8_type_1 rfl rfl ?_
  refine mg_62 (pc := 2) hP rfl dX8_type_2 ?_
  refine r_bipush (pc := 5) (v := 40) dX8_type_5 (by decide) ?_
  refine r_icmp_ne (pc := 7) (tgt := 14) dX8_type_7 (by decide) (fun h7 => ?_) (fun h7 => ?_)
  · refine r_iconst (pc := 14) (v := 0) dX8_type_14 (by decide) ?_
    refine mp_66 (pc := 15) hP rfl dX8_type_15 ?_
    refine r_aload_n (pc := 18) dX8_type_18 rfl rfl ?_
    refine mgv_66 (pc := 19) (x := 0) hP rfl rfl dX8_type_19 ?_
    refine r_if_le (pc := 22) (tgt := 27) dX8_type_22 (by decide) (fun _ => ?_) (fun h => absurd h (by decide))
    have hlt : tn < 40 := by
      have : tn ≠ 40 := fun z => h7 (by rw [ht, z]; rfl)
      omega
    refine r_aload_n (pc := 27) dX8_type_27 rfl rfl ?_
    refine mg_7 (pc := 28) hP rfl dX8_type_28 ?_
    refine r_aload_n (pc := 31) dX8_type_31 rfl rfl ?_
    refine mg_62 (pc := 32) hP rfl dX8_type_32 ?_
    refine r_iload_n (pc := 35) dX8_type_35 rfl rfl ?_
    refine msn_0 (pc := 36) (tn) hP ⟨ht, hlt⟩ dX8_type_36 ?_
    refine r_aload_n (pc := 37) dX8_type_37 rfl rfl ?_
    refine r_dup (pc := 38) dX8_type_38 rfl ?_
    refine mg_62 (pc := 39) hP rfl dX8_type_39 ?_
    refine r_iconst (pc := 42) (v := 1) dX8_type_42 (by decide) ?_
    refine r_iadd (pc := 43) dX8_type_43 ?_
    refine mp_62 (pc := 44) hP rfl dX8_type_44 ?_
    refine r_aload_n (pc := 47) dX8_type_47 rfl rfl ?_
    refine mg_62 (pc := 48) hP rfl dX8_type_48 ?_
    refine r_iret (pc := 51) rfl rfl dX8_type_51 ?_
    have h40 : tn ≠ 40 := fun z => h7 (by rw [ht, z]; rfl)
    have e : sc 1 + 1 = nI (tn + 1) := by rw [ht]; exact nI_1 tn
    exact Or.inr ⟨h40, by rw [← e]; rfl, by rw [← e]; rfl⟩
  · refine r_iconst (pc := 10) (v := 1) dX8_type_10 (by decide) ?_
    refine r_goto (pc := 11) (tgt := 15) dX8_type_11 (by decide) ?_
    refine mp_66 (pc := 15) hP rfl dX8_type_15 ?_
    refine r_aload_n (pc := 18) dX8_type_18 rfl rfl ?_
    refine mgv_66 (pc := 19) (x := 1) hP rfl rfl dX8_type_19 ?_
    refine r_if_le (pc := 22) (tgt := 27) dX8_type_22 (by decide) (fun h => absurd h (by decide)) (fun _ => ?_)
    refine r_iconst (pc := 25) (v := 0) dX8_type_25 (by decide) ?_
    refine r_iret (pc := 26) rfl rfl dX8_type_26 ?_
    exact Or.inl ⟨(nI_eq (b := 40) (by omega) (by decide)).mp (ht.symm.trans h7), rfl, rfl⟩

set_option maxRecDepth 100000 in
set_option maxHeartbeats 4000000 in
theorem am_error {G : aw_G} {P T : List va_E} {sc : Nat → Int32} {ar : Nat → Nat → Int32} (hP : P.length = 12) {tn : Nat} (ht : sc 1 = nI tn) (htn : tn ≤ 40) : AM G fX8_error [.ref 12] (mw P sc ar T) (qm P T (.inl (some (.int (pe (tlist (ar 0) 0 tn) 0 true (-1) [] [false])))) (fun sc2 ar2 => ag [12, 14, 16] [13, 15] sc ar sc2 ar2 ∧ sc2 12 = 0)) := by
  refine AM_of (by decide) rfl rfl (Nat.le_of_ble_eq_true rfl) ?_
  show AW G fX8_error 0 0 (mw P sc ar T) 0 [some (.ref 12)] [] _
  refine r_aload_n (pc := 0) dX8_error_0 rfl rfl ?_
  refine r_iconst (pc := 1) (v := 0) dX8_error_1 (by decide) ?_
  refine mp_66 (pc := 2) hP rfl dX8_error_2 ?_
  refine r_aload_n (pc := 5) dX8_error_5 rfl rfl ?_
  refine s_X8_95 (pc := 6) (kc' := 0) (ks' := 0) rfl rfl (am_firstError hP tn ht htn) (mw_o hP) (Nat.le_of_ble_eq_true rfl) (Nat.le_of_ble_eq_true rfl) (Nat.le_of_ble_eq_true rfl) (Nat.le_of_ble_eq_true rfl) (by exact (Nat.le_of_ble_eq_true rfl)) rfl (List.forall_mem_cons.mpr ⟨rfl, fun _ h => nomatch h⟩) rfl dX8_error_6 aw_kmt (aw_kmq (fun sc2 ar2 hag => ?_))
  refine r_iret (pc := 9) rfl rfl dX8_error_9 ?_
  exact ⟨rfl, sc2, ar2, rfl, ag_tr (ag_s ag_rf 12 _ (by decide)) (ag_mono hag (by decide) (by decide)), (hag.1 12 (by decide)).trans (upd_s _ _ _)⟩

set_option maxRecDepth 100000 in
set_option maxHeartbeats 4000000 in
theorem am_dueType {G : aw_G} {P T : List va_E} {sc : Nat → Int32} {ar : Nat → Nat → Int32} (hP : P.length = 12) (f : Nat) (hf : f < 10) : AM G fX8_dueType [.ref 12, .int (nI f)] (mw P sc ar T) (qx (.inl (some (.int (dueF (ar 4) f)))) (mw P sc ar T)) := by
  refine AM_of (by decide) rfl rfl (Nat.le_of_ble_eq_true rfl) ?_
  show AW G fX8_dueType 0 0 (mw P sc ar T) 0 [some (.ref 12), some (.int (nI f))] [] _
  refine r_iload_n (pc := 0) dX8_dueType_0 rfl rfl ?_
  refine r_bipush (pc := 1) (v := 6) dX8_dueType_1 (by decide) ?_
  refine r_icmp_ge (pc := 3) (tgt := 15) dX8_dueType_3 (by decide) (fun h3 => ?_) (fun h3 => ?_)
  · refine r_iconst (pc := 15) (v := 2) dX8_dueType_15 (by decide) ?_
    refine r_iret (pc := 16) rfl rfl dX8_dueType_16 ?_
    have h6 : ¬ f < 6 := fun z => nI_ge9 (b := 6) z (by decide) h3
    exact ⟨by rw [dueF, if_neg h6], rfl⟩
  · refine r_aload_n (pc := 6) dX8_dueType_6 rfl rfl ?_
    refine mg_19 (pc := 7) hP rfl dX8_dueType_7 ?_
    refine r_iload_n (pc := 10) dX8_dueType_10 rfl rfl ?_
    refine mln_4 (pc := 11) (f) hP ⟨rfl, by omega⟩ dX8_dueType_11 ?_
    refine r_goto (pc := 12) (tgt := 16) dX8_dueType_12 (by decide) ?_
    refine r_iret (pc := 16) rfl rfl dX8_dueType_16 ?_
    have h6 : f < 6 := by
      rcases Nat.lt_or_ge f 6 with z | z
      · exact z
      · exact absurd (nI_le (a := 6) z (by omega)) h3
    exact ⟨by rw [dueF, if_pos h6], rfl⟩

set_option maxRecDepth 100000 in
set_option maxHeartbeats 4000000 in
theorem am_breaks {G : aw_G} {P T : List va_E} {sc : Nat → Int32} {ar : Nat → Nat → Int32} (hP : P.length = 12) {tn vn an : Nat} {R : Nat → List Int32} {vv : Nat → Nat} (hM : MI tn vn an R vv sc ar) (f : Nat) (hf9 : f < 10) : AM G fX8_breaks [.ref 12, .int (nI f)] (mw P sc ar T) (qm P T (.inl (some (.int (bi (brkF (ar 4) (R f) f))))) (fun sc2 ar2 => ag [] [21] sc ar sc2 ar2)) := by
  refine AM_of (by decide) rfl rfl (Nat.le_of_ble_eq_true rfl) ?_
  show AW G fX8_breaks 0 0 (mw P sc ar T) 0 [some (.ref 12), some (.int (nI f))] [] _
  have hf : f < 110 := by omega
  refine r_aload_n (pc := 0) dX8_breaks_0 rfl rfl ?_
  refine mg_16 (pc := 1) hP rfl dX8_breaks_1 ?_
  refine r_iload_n (pc := 4) dX8_breaks_4 rfl rfl ?_
  refine mln_3 (pc := 5) (f) hP ⟨rfl, hf⟩ dX8_breaks_5 ?_
  refine r_if_le (pc := 6) (tgt := 39) dX8_breaks_6 (by decide) (fun h6 => ?_) (fun h6 => ?_)
  · refine r_iconst (pc := 39) (v := 0) dX8_breaks_39 (by decide) ?_
    refine r_iret (pc := 40) rfl rfl dX8_breaks_40 ?_
    have h9 : R f = [] := by
      have e := (hM.2.2.2.2.2.2.1 f hf).1.2.2.1
      cases hr : R f with
      | nil => rfl
      | cons a b =>
        have hl := (hM.2.2.2.2.2.2.1 f hf).1.2.1
        rw [hr] at e hl
        exact absurd h6 (by rw [e]; exact nI_nle (by simp) (by omega))
    exact ⟨by simp [brkF, h9, bi], sc, ar, rfl, ag_rf⟩
  · have hw : wfr (R f) := by
      rcases (hM.2.2.2.2.2.2.1 f hf).2 with z | z
      · exact absurd h6 (by rw [(hM.2.2.2.2.2.2.1 f hf).1.2.2.1, z]; decide)
      · exact z
    refine r_aload_n (pc := 9) dX8_breaks_9 rfl rfl ?_
    refine r_aload_n (pc := 10) dX8_breaks_10 rfl rfl ?_
    refine mg_13 (pc := 11) hP rfl dX8_breaks_11 ?_
    refine r_bipush (pc := 14) (v := 40) dX8_breaks_14 (by decide) ?_
    refine r_iload_n (pc := 16) dX8_breaks_16 rfl rfl ?_
    refine r_imul (pc := 17) dX8_breaks_17 ?_
    refine r_aload_n (pc := 18) dX8_breaks_18 rfl rfl ?_
    refine mg_16 (pc := 19) hP rfl dX8_breaks_19 ?_
    refine r_iload_n (pc := 22) dX8_breaks_22 rfl rfl ?_
    refine mln_3 (pc := 23) (f) hP ⟨rfl, hf⟩ dX8_breaks_23 ?_
    rw [(hM.2.2.2.2.2.2.1 f hf).1.2.2.1, n40]
    refine s_X8_129 (pc := 24) (kc' := 0) (ks' := 0) rfl rfl (am_typeOf2 hP (40 * f) (by have := (hM.2.2.2.2.2.2.1 f hf).1.2.1; omega) ((hM.2.2.2.2.2.2.1 f hf).1.2.1) (fun j x hx => (hM.2.2.2.2.2.2.1 f hf).1.2.2.2 j x hx) hw.2.1 (tyV_of hw)) (mw_o hP) (Nat.le_of_ble_eq_true rfl) (Nat.le_of_ble_eq_true rfl) (Nat.le_of_ble_eq_true rfl) (Nat.le_of_ble_eq_true rfl) (by exact (Nat.le_of_ble_eq_true rfl)) rfl (List.forall_mem_cons.mpr ⟨rfl, (List.forall_mem_cons.mpr ⟨rfl, (List.forall_mem_cons.mpr ⟨rfl, (List.forall_mem_cons.mpr ⟨rfl, fun _ h => nomatch h⟩)⟩)⟩)⟩) rfl dX8_breaks_24 aw_kmt (aw_kmq (fun sc2 ar2 hag => ?_))
    refine r_aload_n (pc := 27) dX8_breaks_27 rfl rfl ?_
    refine r_iload_n (pc := 28) dX8_breaks_28 rfl rfl ?_
    refine s_X8_133 (pc := 29) (kc' := 0) (ks' := 0) rfl rfl (am_dueType hP f hf9) (mw_o hP) (Nat.le_of_ble_eq_true rfl) (Nat.le_of_ble_eq_true rfl) (Nat.le_of_ble_eq_true rfl) (Nat.le_of_ble_eq_true rfl) (by exact (Nat.le_of_ble_eq_true rfl)) rfl (List.forall_mem_cons.mpr ⟨rfl, (List.forall_mem_cons.mpr ⟨rfl, fun _ h => nomatch h⟩)⟩) rfl dX8_breaks_29 aw_kt (aw_kq ?_)
    refine r_icmp_eq (pc := 32) (tgt := 39) dX8_breaks_32 (by decide) (fun h32 => ?_) (fun h32 => ?_)
    · refine r_iconst (pc := 39) (v := 0) dX8_breaks_39 (by decide) ?_
      refine r_iret (pc := 40) rfl rfl dX8_breaks_40 ?_
      have h9 : brkF (ar 4) (R f) f = false := by
        have h8 := h32
        rw [hag.2 4 (by decide)] at h8
        simp [brkF, wfr_ne hw, h8]
      exact ⟨by rw [h9]; rfl, sc2, ar2, rfl, hag⟩
    · refine r_iconst (pc := 35) (v := 1) dX8_breaks_35 (by decide) ?_
      refine r_goto (pc := 36) (tgt := 40) dX8_breaks_36 (by decide) ?_
      refine r_iret (pc := 40) rfl rfl dX8_breaks_40 ?_
      have h9 : brkF (ar 4) (R f) f = true := by
        have h8 := h32
        rw [hag.2 4 (by decide)] at h8
        simp [brkF, wfr_ne hw, h8]
      exact ⟨by rw [h9]; rfl, sc2, ar2, rfl, hag⟩

set_option maxRecDepth 100000 in
set_option maxHeartbeats 4000000 in
theorem bm_loop {G : aw_G} {P T : List va_E} {sc0 : Nat → Int32} {ar0 : Nat → Nat → Int32} (hP : P.length = 12) {tn vn an : Nat} {R : Nat → List Int32} {vv : Nat → Nat} (hM : MI tn vn an R vv sc0 ar0) (v : Nat) : ∀ (m k a : Nat) (sc : Nat → Int32) (ar : Nat → Nat → Int32), ag [] [21] sc0 ar0 sc ar → k + m = 10 → a + cntU (fun f => brkF (ar0 4) (R f) f) k m = v → AW G fX8_brokenMany 0 0 (mw P sc ar T) 4 [some (.ref 12), some (.int (nI a)), some (.int (nI k))] [] (qm P T (.inl (some (.int (nI v)))) (fun sc2 ar2 => ag [] [21] sc0 ar0 sc2 ar2)) := by
  intro m
  induction m with
  | zero =>
    intro k a sc ar hag hk hv
    refine r_iload_n (pc := 4) dX8_brokenMany_4 rfl rfl ?_
    refine r_bipush (pc := 5) (v := 10) dX8_brokenMany_5 (by decide) ?_
    refine r_icmp_ge (pc := 7) (tgt := 32) dX8_brokenMany_7 (by decide) (fun h7 => ?_) (fun h => absurd (by rw [show k = 10 by omega]; decide) h)
    refine r_iload_n (pc := 32) dX8_brokenMany_32 rfl rfl ?_
    refine r_iret (pc := 33) rfl rfl dX8_brokenMany_33 ?_
    exact ⟨by rw [← hv]; rfl, sc, ar, rfl, hag⟩
  | succ m ih =>
    intro k a sc ar hag hk hv
    refine r_iload_n (pc := 4) dX8_brokenMany_4 rfl rfl ?_
    refine r_bipush (pc := 5) (v := 10) dX8_brokenMany_5 (by decide) ?_
    refine r_icmp_ge (pc := 7) (tgt := 32) dX8_brokenMany_7 (by decide) (fun h => absurd h (nI_ge9 (b := 10) (by omega) (by decide))) (fun h7 => ?_)
    refine r_iload_n (pc := 10) dX8_brokenMany_10 rfl rfl ?_
    refine r_aload_n (pc := 11) dX8_brokenMany_11 rfl rfl ?_
    refine r_iload_n (pc := 12) dX8_brokenMany_12 rfl rfl ?_
    refine s_X8_136 (pc := 13) (kc' := 0) (ks' := 0) rfl rfl (am_breaks hP (MI_ag hM hag (by decide) (by decide)) k (by omega)) (mw_o hP) (Nat.le_of_ble_eq_true rfl) (Nat.le_of_ble_eq_true rfl) (Nat.le_of_ble_eq_true rfl) (Nat.le_of_ble_eq_true rfl) (by exact (Nat.le_of_ble_eq_true rfl)) rfl (List.forall_mem_cons.mpr ⟨rfl, (List.forall_mem_cons.mpr ⟨rfl, fun _ h => nomatch h⟩)⟩) rfl dX8_brokenMany_13 aw_kmt (aw_kmq (fun sc2 ar2 hag2 => ?_))
    refine r_if_eq (pc := 16) (tgt := 23) dX8_brokenMany_16 (by decide) (fun h16 => ?_) (fun h16 => ?_)
    · refine r_iconst (pc := 23) (v := 0) dX8_brokenMany_23 (by decide) ?_
      refine r_iadd (pc := 24) dX8_brokenMany_24 ?_
      refine r_istore_n (pc := 25) dX8_brokenMany_25 rfl (Nat.le_of_ble_eq_true rfl) rfl ?_
      refine r_iincK (pc := 26) (k9 := 1) dX8_brokenMany_26 (by decide) rfl (Nat.le_of_ble_eq_true rfl) rfl ?_
      refine r_goto (pc := 29) (tgt := 4) dX8_brokenMany_29 (by decide) ?_
      have hb : brkF (ar0 4) (R k) k = false := by
        have h8 := bi_eq.mp h16
        rw [hag.2 4 (by decide)] at h8
        exact h8
      rw [nI_1]
      rw [show nI a + 0 = nI a from nI_add a 0]
      exact ih (k + 1) (a ) sc2 ar2 (ag_tr hag hag2) (by omega) (by rw [← hv, cntU, hb]; simp <;> omega)
    · refine r_iconst (pc := 19) (v := 1) dX8_brokenMany_19 (by decide) ?_
      refine r_goto (pc := 20) (tgt := 24) dX8_brokenMany_20 (by decide) ?_
      refine r_iadd (pc := 24) dX8_brokenMany_24 ?_
      refine r_istore_n (pc := 25) dX8_brokenMany_25 rfl (Nat.le_of_ble_eq_true rfl) rfl ?_
      refine r_iincK (pc := 26) (k9 := 1) dX8_brokenMany_26 (by decide) rfl (Nat.le_of_ble_eq_true rfl) rfl ?_
      refine r_goto (pc := 29) (tgt := 4) dX8_brokenMany_29 (by decide) ?_
      have hb : brkF (ar0 4) (R k) k = true := by
        have h8 := bi_ne.mp h16
        rw [hag.2 4 (by decide)] at h8
        exact h8
      rw [nI_1]
      rw [nI_1]
      exact ih (k + 1) (a + 1) sc2 ar2 (ag_tr hag hag2) (by omega) (by rw [← hv, cntU, hb]; simp <;> omega)
set_option maxRecDepth 100000 in
set_option maxHeartbeats 4000000 in
theorem am_brokenMany {G : aw_G} {P T : List va_E} {sc : Nat → Int32} {ar : Nat → Nat → Int32} (hP : P.length = 12) {tn vn an : Nat} {R : Nat → List Int32} {vv : Nat → Nat} (hM : MI tn vn an R vv sc ar) : AM G fX8_brokenMany [.ref 12] (mw P sc ar T) (qm P T (.inl (some (.int (nI (cntU (fun f => brkF (ar 4) (R f) f) 0 10))))) (fun sc2 ar2 => ag [] [21] sc ar sc2 ar2)) := by
  refine AM_of (by decide) rfl rfl (Nat.le_of_ble_eq_true rfl) ?_
  show AW G fX8_brokenMany 0 0 (mw P sc ar T) 0 [some (.ref 12), none, none] [] _
  refine r_iconst (pc := 0) (v := 0) dX8_brokenMany_0 (by decide) ?_
  refine r_istore_n (pc := 1) dX8_brokenMany_1 rfl (Nat.le_of_ble_eq_true rfl) rfl ?_
  refine r_iconst (pc := 2) (v := 0) dX8_brokenMany_2 (by decide) ?_
  refine r_istore_n (pc := 3) dX8_brokenMany_3 rfl (Nat.le_of_ble_eq_true rfl) rfl ?_
  exact bm_loop hP hM _ 10 0 0 sc ar ag_rf rfl (Nat.zero_add _)

/-- an answer of the reference, of a call that may throw by its words -/
def qe (P T : List va_E) (C : Int32 → (Nat → Int32) → (Nat → Nat → Int32) → Prop) : aw_R → List va_E → Prop := fun r w' => ∃ (v : Int32) (sc : Nat → Int32) (ar : Nat → Nat → Int32), r = .inl (some (.int v)) ∧ w' = mw P sc ar T ∧ C v sc ar
def rowOf (cs : List Int32) : List Int32 := (lr cs.length cs [] []).getD []
/-- what is owed of texts: one without an error is laid as a row -/
def hparse : Prop := ∀ cs : List Int32, cs.length ≤ 40 → pe cs 0 true (-1) [] [false] = -1 → lr cs.length cs [] [] = some (rowOf cs) ∧ wfr (rowOf cs)
theorem tlist_len (f : Nat → Int32) : ∀ m k, (tlist f k m).length = m
  | 0, _ => rfl
  | m + 1, k => by show (tlist f (k + 1) m).length + 1 = _; rw [tlist_len f m]
def isBit (x : Int32) (k : Nat) : Prop := bitI x k = true
set_option maxRecDepth 100000 in
set_option maxHeartbeats 4000000 in
theorem am_setType {G : aw_G} {P T : List va_E} {sc : Nat → Int32} {ar : Nat → Nat → Int32} (hP : P.length = 12) {tn vn an : Nat} {R : Nat → List Int32} {vv : Nat → Nat} (hM : MI tn vn an R vv sc ar) (f t : Int32) : AM G fX8_setType [.ref 12, .int f, .int t] (mw P sc ar T) (qe P T (fun v sc2 ar2 => (¬ (0 ≤ f ∧ f ≤ 5) ∧ sc2 = upd sc 12 1 ∧ ar2 = ar) ∨ ((0 ≤ f ∧ f ≤ 5) ∧ ¬ (0 ≤ t ∧ t ≤ 3) ∧ sc2 = upd sc 12 2 ∧ ar2 = ar) ∨ ((0 ≤ f ∧ f ≤ 5) ∧ (0 ≤ t ∧ t ≤ 3) ∧ ag [] [21] (upd sc 12 0) (va_up ar 4 (upd (ar 4) f.toNatClampNeg t)) sc2 ar2 ∧ v = nI (cntU (fun g => brkF (upd (ar 4) f.toNatClampNeg t) (R g) g) 0 10)))) := by
  refine AM_of (by decide) rfl rfl (Nat.le_of_ble_eq_true rfl) ?_
  show AW G fX8_setType 0 0 (mw P sc ar T) 0 [some (.ref 12), some (.int f), some (.int t)] [] _
  refine r_aload_n (pc := 0) dX8_setType_0 rfl rfl ?_
  refine r_iload_n (pc := 1) dX8_setType_1 rfl rfl ?_
  refine s_X8_139 (pc := 2) (kc' := 0) (ks' := 0) rfl rfl (am_isField _)  (Nat.le_of_ble_eq_true rfl) (Nat.le_of_ble_eq_true rfl) (Nat.le_of_ble_eq_true rfl) (Nat.le_of_ble_eq_true rfl) (by exact (Nat.le_of_ble_eq_true rfl)) rfl (List.forall_mem_cons.mpr ⟨rfl, fun _ h => nomatch h⟩) rfl dX8_setType_2 aw_kt (aw_kq ?_)
  refine r_if_ne (pc := 5) (tgt := 12) dX8_setType_5 (by decide) (fun h5 => ?_) (fun h5 => ?_)
  · refine r_iload_n (pc := 12) dX8_setType_12 rfl rfl ?_
    refine r_iconst (pc := 13) (v := 0) dX8_setType_13 (by decide) ?_
    refine r_iconst (pc := 14) (v := 3) dX8_setType_14 (by decide) ?_
    refine s_X8_69 (pc := 15) (kc' := 0) (ks' := 0) rfl rfl (am_in _ _ _)  (Nat.le_of_ble_eq_true rfl) (Nat.le_of_ble_eq_true rfl) (Nat.le_of_ble_eq_true rfl) (Nat.le_of_ble_eq_true rfl) (by exact (Nat.le_of_ble_eq_true rfl)) rfl (List.forall_mem_cons.mpr ⟨rfl, (List.forall_mem_cons.mpr ⟨rfl, (List.forall_mem_cons.mpr ⟨rfl, fun _ h => nomatch h⟩)⟩)⟩) rfl dX8_setType_15 aw_kt (aw_kq ?_)
    refine r_if_ne (pc := 18) (tgt := 25) dX8_setType_18 (by decide) (fun h18 => ?_) (fun h18 => ?_)
    · refine r_iconst (pc := 25) (v := 0) dX8_setType_25 (by decide) ?_
      refine mp_66 (pc := 26) hP rfl dX8_setType_26 ?_
      refine r_aload_n (pc := 29) dX8_setType_29 rfl rfl ?_
      refine mgv_66 (pc := 30) (x := 0) hP rfl rfl dX8_setType_30 ?_
      refine r_if_le (pc := 33) (tgt := 38) dX8_setType_33 (by decide) (fun _ => ?_) (fun h => absurd h (by decide))
      have hf : 0 ≤ f ∧ f ≤ 5 := of_decide_eq_true (bi_ne.mp h5)
      obtain ⟨j, hj, hfj⟩ := nI_of2 (x := f) (M := 5) (n := 5) (by decide) (Int32.not_lt.mpr hf.1) hf.2
      have hfc : f.toNatClampNeg = j := by rw [hfj]; exact nI_clamp (by omega)
      have hfn : f = nI f.toNatClampNeg := by rw [hfc]; exact hfj
      refine r_aload_n (pc := 38) dX8_setType_38 rfl rfl ?_
      refine mg_19 (pc := 39) hP rfl dX8_setType_39 ?_
      refine r_iload_n (pc := 42) dX8_setType_42 rfl rfl ?_
      refine r_iload_n (pc := 43) dX8_setType_43 rfl rfl ?_
      refine msn_4 (pc := 44) (f.toNatClampNeg) hP ⟨hfn, by omega⟩ dX8_setType_44 ?_
      have hM2 := MI_ag hM (ag_a (ag_s (ag_rf (Ks := [12]) (Ka := [4]) (sc := sc) (ar := ar)) 12 0 (by decide)) 4 (upd (ar 4) f.toNatClampNeg t) (by decide)) (by decide) (by decide)
      refine r_aload_n (pc := 45) dX8_setType_45 rfl rfl ?_
      refine s_X8_142 (pc := 46) (kc' := 0) (ks' := 0) rfl rfl (am_brokenMany hP hM2) (mw_o hP) (Nat.le_of_ble_eq_true rfl) (Nat.le_of_ble_eq_true rfl) (Nat.le_of_ble_eq_true rfl) (Nat.le_of_ble_eq_true rfl) (by exact (Nat.le_of_ble_eq_true rfl)) rfl (List.forall_mem_cons.mpr ⟨rfl, fun _ h => nomatch h⟩) rfl dX8_setType_46 aw_kmt (aw_kmq (fun sc2 ar2 hag => ?_))
      refine r_iret (pc := 49) rfl rfl dX8_setType_49 ?_
      refine ⟨_, sc2, ar2, rfl, rfl, Or.inr (Or.inr ⟨hf, of_decide_eq_true (bi_ne.mp h18), hag, ?_⟩)⟩
      rw [va_up_self]
    · refine r_iconst (pc := 21) (v := 2) dX8_setType_21 (by decide) ?_
      refine r_goto (pc := 22) (tgt := 26) dX8_setType_22 (by decide) ?_
      refine mp_66 (pc := 26) hP rfl dX8_setType_26 ?_
      refine r_aload_n (pc := 29) dX8_setType_29 rfl rfl ?_
      refine mgv_66 (pc := 30) (x := 2) hP rfl rfl dX8_setType_30 ?_
      refine r_if_le (pc := 33) (tgt := 38) dX8_setType_33 (by decide) (fun h => absurd h (by decide)) (fun _ => ?_)
      refine r_iconst (pc := 36) (v := 0) dX8_setType_36 (by decide) ?_
      refine r_iret (pc := 37) rfl rfl dX8_setType_37 ?_
      exact ⟨0, _, _, rfl, rfl, Or.inr (Or.inl ⟨of_decide_eq_true (bi_ne.mp h5), of_decide_eq_false (bi_eq.mp h18), rfl, rfl⟩)⟩
  · refine r_iconst (pc := 8) (v := 1) dX8_setType_8 (by decide) ?_
    refine r_goto (pc := 9) (tgt := 26) dX8_setType_9 (by decide) ?_
    refine mp_66 (pc := 26) hP rfl dX8_setType_26 ?_
    refine r_aload_n (pc := 29) dX8_setType_29 rfl rfl ?_
    refine mgv_66 (pc := 30) (x := 1) hP rfl rfl dX8_setType_30 ?_
    refine r_if_le (pc := 33) (tgt := 38) dX8_setType_33 (by decide) (fun h => absurd h (by decide)) (fun _ => ?_)
    refine r_iconst (pc := 36) (v := 0) dX8_setType_36 (by decide) ?_
    refine r_iret (pc := 37) rfl rfl dX8_setType_37 ?_
    exact ⟨0, _, _, rfl, rfl, Or.inl ⟨of_decide_eq_false (bi_eq.mp h5), rfl, rfl⟩⟩

set_option maxRecDepth 100000 in
set_option maxHeartbeats 4000000 in
theorem am_typeOfText {G : aw_G} {P T : List va_E} {sc : Nat → Int32} {ar : Nat → Nat → Int32} (hP : P.length = 12) {tn vn an : Nat} {R : Nat → List Int32} {vv : Nat → Nat} (hM : MI tn vn an R vv sc ar) (hpp : hparse) : AM G fX8_typeOfText [.ref 12] (mw P sc ar T) (qe P T (fun v sc2 ar2 => ag [12, 14, 16, 18, 20] [13, 15, 17, 19, 21] sc ar sc2 ar2 ∧ ((pe (tlist (ar 0) 0 tn) 0 true (-1) [] [false] ≠ -1 ∧ sc2 12 = 1) ∨ (pe (tlist (ar 0) 0 tn) 0 true (-1) [] [false] = -1 ∧ sc2 12 = 0 ∧ v = tyV (ar 4) (rowOf (tlist (ar 0) 0 tn)))))) := by
  refine AM_of (by decide) rfl rfl (Nat.le_of_ble_eq_true rfl) ?_
  show AW G fX8_typeOfText 0 0 (mw P sc ar T) 0 [some (.ref 12)] [] _
  refine r_aload_n (pc := 0) dX8_typeOfText_0 rfl rfl ?_
  refine r_aload_n (pc := 1) dX8_typeOfText_1 rfl rfl ?_
  refine s_X8_95 (pc := 2) (kc' := 0) (ks' := 0) rfl rfl (am_firstError hP tn hM.1 hM.2.1) (mw_o hP) (Nat.le_of_ble_eq_true rfl) (Nat.le_of_ble_eq_true rfl) (Nat.le_of_ble_eq_true rfl) (Nat.le_of_ble_eq_true rfl) (by exact (Nat.le_of_ble_eq_true rfl)) rfl (List.forall_mem_cons.mpr ⟨rfl, fun _ h => nomatch h⟩) rfl dX8_typeOfText_2 aw_kmt (aw_kmq (fun sc1 ar1 hag1 => ?_))
  refine r_iconst (pc := 5) (v := -1) dX8_typeOfText_5 (by decide) ?_
  refine r_icmp_ne (pc := 6) (tgt := 13) dX8_typeOfText_6 (by decide) (fun h6 => ?_) (fun h6 => ?_)
  · refine r_iconst (pc := 13) (v := 1) dX8_typeOfText_13 (by decide) ?_
    refine mp_66 (pc := 14) hP rfl dX8_typeOfText_14 ?_
    refine r_aload_n (pc := 17) dX8_typeOfText_17 rfl rfl ?_
    refine mgv_66 (pc := 18) (x := 1) hP rfl rfl dX8_typeOfText_18 ?_
    refine r_if_le (pc := 21) (tgt := 26) dX8_typeOfText_21 (by decide) (fun h => absurd h (by decide)) (fun _ => ?_)
    refine r_iconst (pc := 24) (v := 0) dX8_typeOfText_24 (by decide) ?_
    refine r_iret (pc := 25) rfl rfl dX8_typeOfText_25 ?_
    exact ⟨0, _, _, rfl, rfl, ag_s (ag_mono hag1 (by decide) (by decide)) 12 _ (by decide), Or.inl ⟨h6, upd_s _ _ _⟩⟩
  · refine r_iconst (pc := 9) (v := 0) dX8_typeOfText_9 (by decide) ?_
    refine r_goto (pc := 10) (tgt := 14) dX8_typeOfText_10 (by decide) ?_
    refine mp_66 (pc := 14) hP rfl dX8_typeOfText_14 ?_
    refine r_aload_n (pc := 17) dX8_typeOfText_17 rfl rfl ?_
    refine mgv_66 (pc := 18) (x := 0) hP rfl rfl dX8_typeOfText_18 ?_
    refine r_if_le (pc := 21) (tgt := 26) dX8_typeOfText_21 (by decide) (fun _ => ?_) (fun h => absurd h (by decide))
    have hpr := hpp (tlist (ar 0) 0 tn) (by rw [tlist_len]; exact hM.2.1) h6
    refine r_aload_n (pc := 26) dX8_typeOfText_26 rfl rfl ?_
    refine s_X8_126 (pc := 27) (kc' := 0) (ks' := 0) rfl rfl (am_layRow (n := (tlist (ar 0) 0 tn).length) (sc := (upd sc1 12 0)) hP ((upd_n _ _ (by decide)).trans ((hag1.1 1 (by decide)).trans hM.1)) hM.2.1 (row := rowOf (tlist (ar 0) 0 tn)) (by rw [hag1.2 0 (by decide)]; exact hpr.1)) (mw_o hP) (Nat.le_of_ble_eq_true rfl) (Nat.le_of_ble_eq_true rfl) (Nat.le_of_ble_eq_true rfl) (Nat.le_of_ble_eq_true rfl) (by exact (Nat.le_of_ble_eq_true rfl)) rfl (List.forall_mem_cons.mpr ⟨rfl, fun _ h => nomatch h⟩) rfl dX8_typeOfText_27 aw_kmt (aw_kmv (fun sc2 ar2 hC => ?_))
    refine r_aload_n (pc := 30) dX8_typeOfText_30 rfl rfl ?_
    refine r_aload_n (pc := 31) dX8_typeOfText_31 rfl rfl ?_
    refine mg_44 (pc := 32) hP rfl dX8_typeOfText_32 ?_
    refine r_iconst (pc := 35) (v := 0) dX8_typeOfText_35 (by decide) ?_
    refine r_aload_n (pc := 36) dX8_typeOfText_36 rfl rfl ?_
    refine mg_99 (pc := 37) hP rfl dX8_typeOfText_37 ?_
    rw [hC.2.1]
    refine s_X8_129 (pc := 40) (kc' := 0) (ks' := 0) rfl rfl (am_typeOf17 hP 0 (by have := hpr.2.2.2; omega) hpr.2.2.2 (fun j x hx => by rw [Nat.zero_add]; exact hC.2.2.1 j x hx) hpr.2.2.1 (tyV_of hpr.2)) (mw_o hP) (Nat.le_of_ble_eq_true rfl) (Nat.le_of_ble_eq_true rfl) (Nat.le_of_ble_eq_true rfl) (Nat.le_of_ble_eq_true rfl) (by exact (Nat.le_of_ble_eq_true rfl)) rfl (List.forall_mem_cons.mpr ⟨rfl, (List.forall_mem_cons.mpr ⟨rfl, (List.forall_mem_cons.mpr ⟨rfl, (List.forall_mem_cons.mpr ⟨rfl, fun _ h => nomatch h⟩)⟩)⟩)⟩) rfl dX8_typeOfText_40 aw_kmt (aw_kmq (fun sc3 ar3 hag3 => ?_))
    refine r_iret (pc := 43) rfl rfl dX8_typeOfText_43 ?_
    refine ⟨_, sc3, ar3, rfl, rfl, ag_tr (ag_s (ag_mono hag1 (by decide) (by decide)) 12 0 (by decide)) (ag_tr (ag_mono hC.1 (by decide) (by decide)) (ag_mono hag3 (by decide) (by decide))), Or.inr ⟨h6, ?_, ?_⟩⟩
    · rw [hag3.1 12 (by decide), hC.1.1 12 (by decide), upd_s]
    · rw [hC.1.2 4 (by decide), hag1.2 4 (by decide)]

set_option maxRecDepth 100000 in
set_option maxHeartbeats 4000000 in
theorem am_isBroken {G : aw_G} {P T : List va_E} {sc : Nat → Int32} {ar : Nat → Nat → Int32} (hP : P.length = 12) {tn vn an : Nat} {R : Nat → List Int32} {vv : Nat → Nat} (hM : MI tn vn an R vv sc ar) (f : Int32) : AM G fX8_isBroken [.ref 12, .int f] (mw P sc ar T) (qe P T (fun v sc2 ar2 => (¬ (0 ≤ f ∧ f ≤ 9) ∧ sc2 = upd sc 12 1 ∧ ar2 = ar ∧ v = 0) ∨ ((0 ≤ f ∧ f ≤ 9) ∧ ag [] [21] (upd sc 12 0) ar sc2 ar2 ∧ v = bi (brkF (ar 4) (R f.toNatClampNeg) f.toNatClampNeg)))) := by
  refine AM_of (by decide) rfl rfl (Nat.le_of_ble_eq_true rfl) ?_
  show AW G fX8_isBroken 0 0 (mw P sc ar T) 0 [some (.ref 12), some (.int f)] [] _
  refine r_aload_n (pc := 0) dX8_isBroken_0 rfl rfl ?_
  refine r_iload_n (pc := 1) dX8_isBroken_1 rfl rfl ?_
  refine s_X8_149 (pc := 2) (kc' := 0) (ks' := 0) rfl rfl (am_isFormula _)  (Nat.le_of_ble_eq_true rfl) (Nat.le_of_ble_eq_true rfl) (Nat.le_of_ble_eq_true rfl) (Nat.le_of_ble_eq_true rfl) (by exact (Nat.le_of_ble_eq_true rfl)) rfl (List.forall_mem_cons.mpr ⟨rfl, fun _ h => nomatch h⟩) rfl dX8_isBroken_2 aw_kt (aw_kq ?_)
  refine r_if_eq (pc := 5) (tgt := 12) dX8_isBroken_5 (by decide) (fun h5 => ?_) (fun h5 => ?_)
  · refine r_iconst (pc := 12) (v := 1) dX8_isBroken_12 (by decide) ?_
    refine mp_66 (pc := 13) hP rfl dX8_isBroken_13 ?_
    refine r_aload_n (pc := 16) dX8_isBroken_16 rfl rfl ?_
    refine mgv_66 (pc := 17) (x := 1) hP rfl rfl dX8_isBroken_17 ?_
    refine r_if_ne (pc := 20) (tgt := 35) dX8_isBroken_20 (by decide) (fun _ => ?_) (fun h => absurd h (by decide))
    refine r_iconst (pc := 35) (v := 0) dX8_isBroken_35 (by decide) ?_
    refine r_iret (pc := 36) rfl rfl dX8_isBroken_36 ?_
    exact ⟨0, _, _, rfl, rfl, Or.inl ⟨of_decide_eq_false (bi_eq.mp h5), rfl, rfl, rfl⟩⟩
  · refine r_iconst (pc := 8) (v := 0) dX8_isBroken_8 (by decide) ?_
    refine r_goto (pc := 9) (tgt := 13) dX8_isBroken_9 (by decide) ?_
    refine mp_66 (pc := 13) hP rfl dX8_isBroken_13 ?_
    refine r_aload_n (pc := 16) dX8_isBroken_16 rfl rfl ?_
    refine mgv_66 (pc := 17) (x := 0) hP rfl rfl dX8_isBroken_17 ?_
    refine r_if_ne (pc := 20) (tgt := 35) dX8_isBroken_20 (by decide) (fun h => absurd h (by decide)) (fun _ => ?_)
    have hf : 0 ≤ f ∧ f ≤ 9 := of_decide_eq_true (bi_ne.mp h5)
    obtain ⟨j, hj, hfj⟩ := nI_of2 (x := f) (M := 9) (n := 9) (by decide) (Int32.not_lt.mpr hf.1) hf.2
    have hfc : f.toNatClampNeg = j := by rw [hfj]; exact nI_clamp (by omega)
    have hfn : f = nI f.toNatClampNeg := by rw [hfc]; exact hfj
    have hM2 := MI_ag hM (ag_s (ag_rf (Ks := [12]) (Ka := []) (sc := sc) (ar := ar)) 12 0 (by decide)) (by decide) (by decide)
    refine r_aload_n (pc := 23) dX8_isBroken_23 rfl rfl ?_
    refine r_iload_n (pc := 24) dX8_isBroken_24 rfl rfl ?_
    rw [show Value.int f = Value.int (nI f.toNatClampNeg) from congrArg Value.int hfn]
    refine s_X8_136 (pc := 25) (kc' := 0) (ks' := 0) rfl rfl (am_breaks hP hM2 f.toNatClampNeg (by omega)) (mw_o hP) (Nat.le_of_ble_eq_true rfl) (Nat.le_of_ble_eq_true rfl) (Nat.le_of_ble_eq_true rfl) (Nat.le_of_ble_eq_true rfl) (by exact (Nat.le_of_ble_eq_true rfl)) rfl (List.forall_mem_cons.mpr ⟨rfl, (List.forall_mem_cons.mpr ⟨rfl, fun _ h => nomatch h⟩)⟩) rfl dX8_isBroken_25 aw_kmt (aw_kmq (fun sc2 ar2 hag => ?_))
    refine r_if_eq (pc := 28) (tgt := 35) dX8_isBroken_28 (by decide) (fun h28 => ?_) (fun h28 => ?_)
    · refine r_iconst (pc := 35) (v := 0) dX8_isBroken_35 (by decide) ?_
      refine r_iret (pc := 36) rfl rfl dX8_isBroken_36 ?_
      refine ⟨_, sc2, ar2, rfl, rfl, Or.inr ⟨hf, hag, ?_⟩⟩
      rw [bi_eq.mp h28]
      rfl
    · refine r_iconst (pc := 31) (v := 1) dX8_isBroken_31 (by decide) ?_
      refine r_goto (pc := 32) (tgt := 36) dX8_isBroken_32 (by decide) ?_
      refine r_iret (pc := 36) rfl rfl dX8_isBroken_36 ?_
      refine ⟨_, sc2, ar2, rfl, rfl, Or.inr ⟨hf, hag, ?_⟩⟩
      rw [bi_ne.mp h28]
      rfl

set_option maxRecDepth 100000 in
set_option maxHeartbeats 4000000 in
theorem am_dropFormula {G : aw_G} {P T : List va_E} {sc : Nat → Int32} {ar : Nat → Nat → Int32} (hP : P.length = 12) {tn vn an : Nat} {R : Nat → List Int32} {vv : Nat → Nat} (hM : MI tn vn an R vv sc ar) (f : Int32) : AM G fX8_dropFormula [.ref 12, .int f] (mw P sc ar T) (qe P T (fun v sc2 ar2 => (¬ (0 ≤ f ∧ f ≤ 9) ∧ sc2 = upd sc 12 1 ∧ ar2 = ar ∧ v = 0) ∨ ((0 ≤ f ∧ f ≤ 9) ∧ sc2 = upd sc 12 0 ∧ v = bi (decide (R f.toNatClampNeg ≠ [])) ∧ ((R f.toNatClampNeg = [] ∧ ar2 = ar) ∨ (R f.toNatClampNeg ≠ [] ∧ ar2 = va_up ar 3 (upd (ar 3) f.toNatClampNeg 0)))))) := by
  refine AM_of (by decide) rfl rfl (Nat.le_of_ble_eq_true rfl) ?_
  show AW G fX8_dropFormula 0 0 (mw P sc ar T) 0 [some (.ref 12), some (.int f), none] [] _
  refine r_aload_n (pc := 0) dX8_dropFormula_0 rfl rfl ?_
  refine r_iload_n (pc := 1) dX8_dropFormula_1 rfl rfl ?_
  refine s_X8_149 (pc := 2) (kc' := 0) (ks' := 0) rfl rfl (am_isFormula _)  (Nat.le_of_ble_eq_true rfl) (Nat.le_of_ble_eq_true rfl) (Nat.le_of_ble_eq_true rfl) (Nat.le_of_ble_eq_true rfl) (by exact (Nat.le_of_ble_eq_true rfl)) rfl (List.forall_mem_cons.mpr ⟨rfl, fun _ h => nomatch h⟩) rfl dX8_dropFormula_2 aw_kt (aw_kq ?_)
  refine r_if_eq (pc := 5) (tgt := 12) dX8_dropFormula_5 (by decide) (fun h5 => ?_) (fun h5 => ?_)
  · refine r_iconst (pc := 12) (v := 1) dX8_dropFormula_12 (by decide) ?_
    refine mp_66 (pc := 13) hP rfl dX8_dropFormula_13 ?_
    refine r_aload_n (pc := 16) dX8_dropFormula_16 rfl rfl ?_
    refine mgv_66 (pc := 17) (x := 1) hP rfl rfl dX8_dropFormula_17 ?_
    refine r_if_ne (pc := 20) (tgt := 36) dX8_dropFormula_20 (by decide) (fun _ => ?_) (fun h => absurd h (by decide))
    refine r_iconst (pc := 36) (v := 0) dX8_dropFormula_36 (by decide) ?_
    refine r_istore_n (pc := 37) dX8_dropFormula_37 rfl (Nat.le_of_ble_eq_true rfl) rfl ?_
    refine r_iload_n (pc := 38) dX8_dropFormula_38 rfl rfl ?_
    refine r_if_eq (pc := 39) (tgt := 49) dX8_dropFormula_39 (by decide) (fun _ => ?_) (fun h => absurd h (by decide))
    refine r_iload_n (pc := 49) dX8_dropFormula_49 rfl rfl ?_
    refine r_iret (pc := 50) rfl rfl dX8_dropFormula_50 ?_
    exact ⟨0, _, _, rfl, rfl, Or.inl ⟨of_decide_eq_false (bi_eq.mp h5), rfl, rfl, rfl⟩⟩
  · refine r_iconst (pc := 8) (v := 0) dX8_dropFormula_8 (by decide) ?_
    refine r_goto (pc := 9) (tgt := 13) dX8_dropFormula_9 (by decide) ?_
    refine mp_66 (pc := 13) hP rfl dX8_dropFormula_13 ?_
    refine r_aload_n (pc := 16) dX8_dropFormula_16 rfl rfl ?_
    refine mgv_66 (pc := 17) (x := 0) hP rfl rfl dX8_dropFormula_17 ?_
    refine r_if_ne (pc := 20) (tgt := 36) dX8_dropFormula_20 (by decide) (fun h => absurd h (by decide)) (fun _ => ?_)
    have hf : 0 ≤ f ∧ f ≤ 9 := of_decide_eq_true (bi_ne.mp h5)
    obtain ⟨j, hj, hfj⟩ := nI_of2 (x := f) (M := 9) (n := 9) (by decide) (Int32.not_lt.mpr hf.1) hf.2
    have hfc : f.toNatClampNeg = j := by rw [hfj]; exact nI_clamp (by omega)
    have hfn : f = nI f.toNatClampNeg := by rw [hfc]; exact hfj
    refine r_aload_n (pc := 23) dX8_dropFormula_23 rfl rfl ?_
    refine mg_16 (pc := 24) hP rfl dX8_dropFormula_24 ?_
    refine r_iload_n (pc := 27) dX8_dropFormula_27 rfl rfl ?_
    refine mln_3 (pc := 28) (f.toNatClampNeg) hP ⟨hfn, by omega⟩ dX8_dropFormula_28 ?_
    refine r_if_le (pc := 29) (tgt := 36) dX8_dropFormula_29 (by decide) (fun h29 => ?_) (fun h29 => ?_)
    · refine r_iconst (pc := 36) (v := 0) dX8_dropFormula_36 (by decide) ?_
      refine r_istore_n (pc := 37) dX8_dropFormula_37 rfl (Nat.le_of_ble_eq_true rfl) rfl ?_
      refine r_iload_n (pc := 38) dX8_dropFormula_38 rfl rfl ?_
      refine r_if_eq (pc := 39) (tgt := 49) dX8_dropFormula_39 (by decide) (fun _ => ?_) (fun h => absurd h (by decide))
      refine r_iload_n (pc := 49) dX8_dropFormula_49 rfl rfl ?_
      refine r_iret (pc := 50) rfl rfl dX8_dropFormula_50 ?_
      have hcr := (hM.2.2.2.2.2.2.1 f.toNatClampNeg (by omega)).1
      have h9 : R f.toNatClampNeg = [] := by
        have e := hcr.2.2.1
        cases hr : R f.toNatClampNeg with
        | nil => rfl
        | cons a b =>
          have hl := hcr.2.1
          rw [hr] at e hl
          exact absurd h29 (by rw [e]; exact nI_nle (by simp) (by omega))
      exact ⟨0, _, _, rfl, rfl, Or.inr ⟨hf, rfl, by rw [h9]; rfl, Or.inl ⟨h9, rfl⟩⟩⟩
    · refine r_iconst (pc := 32) (v := 1) dX8_dropFormula_32 (by decide) ?_
      refine r_goto (pc := 33) (tgt := 37) dX8_dropFormula_33 (by decide) ?_
      refine r_istore_n (pc := 37) dX8_dropFormula_37 rfl (Nat.le_of_ble_eq_true rfl) rfl ?_
      refine r_iload_n (pc := 38) dX8_dropFormula_38 rfl rfl ?_
      refine r_if_eq (pc := 39) (tgt := 49) dX8_dropFormula_39 (by decide) (fun h => absurd h (by decide)) (fun _ => ?_)
      refine r_aload_n (pc := 42) dX8_dropFormula_42 rfl rfl ?_
      refine mg_16 (pc := 43) hP rfl dX8_dropFormula_43 ?_
      refine r_iload_n (pc := 46) dX8_dropFormula_46 rfl rfl ?_
      refine r_iconst (pc := 47) (v := 0) dX8_dropFormula_47 (by decide) ?_
      refine msn_3 (pc := 48) (f.toNatClampNeg) hP ⟨hfn, by omega⟩ dX8_dropFormula_48 ?_
      refine r_iload_n (pc := 49) dX8_dropFormula_49 rfl rfl ?_
      refine r_iret (pc := 50) rfl rfl dX8_dropFormula_50 ?_
      have hcr := (hM.2.2.2.2.2.2.1 f.toNatClampNeg (by omega)).1
      have h9 : R f.toNatClampNeg ≠ [] := fun z => h29 (by rw [hcr.2.2.1, z]; decide)
      exact ⟨1, _, _, rfl, rfl, Or.inr ⟨hf, rfl, by simp [h9, bi], Or.inr ⟨h9, rfl⟩⟩⟩

end M5
