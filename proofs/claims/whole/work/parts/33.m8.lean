/-! ===== the reference: answers ===== -/
section M8
set_option maxRecDepth 100000 in
set_option maxHeartbeats 4000000 in
theorem am_canPut {G : aw_G} {P T : List va_E} {sc : Nat → Int32} {ar : Nat → Nat → Int32} (hP : P.length = 12) {tn vn an : Nat} {R : Nat → List Int32} {vv : Nat → Nat} (hM : MI tn vn an R vv sc ar) (a : Nat) (ha : a < an) (f : Nat) (hf : f < 6) : AM G fX8_canPut [.ref 12, .int (nI a), .int (nI f)] (mw P sc ar T) (qx (.inl (some (.int (bi (canP ar R (vv a) f))))) (mw P sc ar T)) := by
  refine AM_of (by decide) rfl rfl (Nat.le_of_ble_eq_true rfl) ?_
  show AW G fX8_canPut 0 0 (mw P sc ar T) 0 [some (.ref 12), some (.int (nI a)), some (.int (nI f)), none] [] _
  have hv := (hM.2.2.2.2.2.2.2 a ha).1
  have hvl : vv a < 10 := by have := (hM.2.2.2.2.2.2.2 a ha).2; have := hM.2.2.2.1; omega
  have ha20 : a < 20 := by have := hM.2.2.2.2.2.1; omega
  have hR := hM.2.2.2.2.2.2.1
  refine r_aload_n (pc := 0) dX8_canPut_0 rfl rfl ?_
  refine mg_25 (pc := 1) hP rfl dX8_canPut_1 ?_
  refine r_iload_n (pc := 4) dX8_canPut_4 rfl rfl ?_
  refine mln_8 (pc := 5) (a) hP ⟨rfl, ha20⟩ dX8_canPut_5 ?_
  rw [hv]
  refine r_istore_n (pc := 6) dX8_canPut_6 rfl (Nat.le_of_ble_eq_true rfl) rfl ?_
  refine r_aload_n (pc := 7) dX8_canPut_7 rfl rfl ?_
  refine r_iload_n (pc := 8) dX8_canPut_8 rfl rfl ?_
  refine r_iload_n (pc := 9) dX8_canPut_9 rfl rfl ?_
  refine s_X8_155 (pc := 10) (kc' := 0) (ks' := 0) rfl rfl (am_typeAt hP (vv a) f hvl hf) (mw_o hP) (Nat.le_of_ble_eq_true rfl) (Nat.le_of_ble_eq_true rfl) (Nat.le_of_ble_eq_true rfl) (Nat.le_of_ble_eq_true rfl) (by exact (Nat.le_of_ble_eq_true rfl)) rfl (List.forall_mem_cons.mpr ⟨rfl, (List.forall_mem_cons.mpr ⟨rfl, (List.forall_mem_cons.mpr ⟨rfl, fun _ h => nomatch h⟩)⟩)⟩) rfl dX8_canPut_10 aw_kt (aw_kq ?_)
  refine r_if_eq (pc := 13) (tgt := 29) dX8_canPut_13 (by decide) (fun h13 => ?_) (fun h13 => ?_)
  · refine r_iconst (pc := 29) (v := 0) dX8_canPut_29 (by decide) ?_
    refine r_iret (pc := 30) rfl rfl dX8_canPut_30 ?_
    have h9 : ar 4 (6 * (vv a + 1) + f) = 0 := h13
    exact ⟨by simp [canP, h9, bi], rfl⟩
  · refine r_aload_n (pc := 16) dX8_canPut_16 rfl rfl ?_
    refine r_iload_n (pc := 17) dX8_canPut_17 rfl rfl ?_
    refine r_iload_n (pc := 18) dX8_canPut_18 rfl rfl ?_
    refine s_X8_175 (pc := 19) (kc' := 0) (ks' := 0) rfl rfl (am_isComputed hP hR (vv a) f hvl (by omega)) (mw_o hP) (Nat.le_of_ble_eq_true rfl) (Nat.le_of_ble_eq_true rfl) (Nat.le_of_ble_eq_true rfl) (Nat.le_of_ble_eq_true rfl) (by exact (Nat.le_of_ble_eq_true rfl)) rfl (List.forall_mem_cons.mpr ⟨rfl, (List.forall_mem_cons.mpr ⟨rfl, (List.forall_mem_cons.mpr ⟨rfl, fun _ h => nomatch h⟩)⟩)⟩) rfl dX8_canPut_19 aw_kt (aw_kq ?_)
    refine r_if_ne (pc := 22) (tgt := 29) dX8_canPut_22 (by decide) (fun h22 => ?_) (fun h22 => ?_)
    · refine r_iconst (pc := 29) (v := 0) dX8_canPut_29 (by decide) ?_
      refine r_iret (pc := 30) rfl rfl dX8_canPut_30 ?_
      have h9 := bi_ne.mp h22
      exact ⟨by simp at h9; simp [canP, h9, bi], rfl⟩
    · refine r_iconst (pc := 25) (v := 1) dX8_canPut_25 (by decide) ?_
      refine r_goto (pc := 26) (tgt := 30) dX8_canPut_26 (by decide) ?_
      refine r_iret (pc := 30) rfl rfl dX8_canPut_30 ?_
      have h9 := bi_eq.mp h22
      have h8 : ¬ ar 4 (6 * (vv a + 1) + f) = 0 := h13
      exact ⟨by simp at h9; simp [canP, h9, h8, bi], rfl⟩

set_option maxRecDepth 100000 in
set_option maxHeartbeats 4000000 in
theorem am_isRight {G : aw_G} {P T : List va_E} {sc : Nat → Int32} {ar : Nat → Nat → Int32} (hP : P.length = 12) {tn vn an : Nat} {R : Nat → List Int32} {vv : Nat → Nat} (hM : MI tn vn an R vv sc ar) (a : Nat) (ha : a < an) (f : Nat) (hf : f < 6) (x : Int32) : AM G fX8_isRight [.ref 12, .int (nI a), .int (nI f), .int x] (mw P sc ar T) (qx (.inl (some (.int (bi (rightP (ar 4 (6 * (vv a + 1) + f)) x))))) (mw P sc ar T)) := by
  refine AM_of (by decide) rfl rfl (Nat.le_of_ble_eq_true rfl) ?_
  show AW G fX8_isRight 0 0 (mw P sc ar T) 0 [some (.ref 12), some (.int (nI a)), some (.int (nI f)), some (.int x), none] [] _
  have hv := (hM.2.2.2.2.2.2.2 a ha).1
  have hvl : vv a < 10 := by have := (hM.2.2.2.2.2.2.2 a ha).2; have := hM.2.2.2.1; omega
  have ha20 : a < 20 := by have := hM.2.2.2.2.2.1; omega
  have hR := hM.2.2.2.2.2.2.1
  refine r_aload_n (pc := 0) dX8_isRight_0 rfl rfl ?_
  refine r_aload_n (pc := 1) dX8_isRight_1 rfl rfl ?_
  refine mg_25 (pc := 2) hP rfl dX8_isRight_2 ?_
  refine r_iload_n (pc := 5) dX8_isRight_5 rfl rfl ?_
  refine mln_8 (pc := 6) (a) hP ⟨rfl, ha20⟩ dX8_isRight_6 ?_
  rw [hv]
  refine r_iload_n (pc := 7) dX8_isRight_7 rfl rfl ?_
  refine s_X8_155 (pc := 8) (kc' := 0) (ks' := 0) rfl rfl (am_typeAt hP (vv a) f hvl hf) (mw_o hP) (Nat.le_of_ble_eq_true rfl) (Nat.le_of_ble_eq_true rfl) (Nat.le_of_ble_eq_true rfl) (Nat.le_of_ble_eq_true rfl) (by exact (Nat.le_of_ble_eq_true rfl)) rfl (List.forall_mem_cons.mpr ⟨rfl, (List.forall_mem_cons.mpr ⟨rfl, (List.forall_mem_cons.mpr ⟨rfl, fun _ h => nomatch h⟩)⟩)⟩) rfl dX8_isRight_8 aw_kt (aw_kq ?_)
  refine r_istore (pc := 11) dX8_isRight_11 (Nat.le_of_ble_eq_true rfl) rfl ?_
  refine r_iload (pc := 13) dX8_isRight_13 rfl ?_
  refine r_iconst (pc := 15) (v := 1) dX8_isRight_15 (by decide) ?_
  refine r_icmp_ne (pc := 16) (tgt := 32) dX8_isRight_16 (by decide) (fun h16 => ?_) (fun h16 => ?_)
  · refine r_iload (pc := 32) dX8_isRight_32 rfl ?_
    refine r_iconst (pc := 34) (v := 2) dX8_isRight_34 (by decide) ?_
    refine r_icmp_ne (pc := 35) (tgt := 47) dX8_isRight_35 (by decide) (fun h35 => ?_) (fun h35 => ?_)
    · refine r_iload_n (pc := 47) dX8_isRight_47 rfl rfl ?_
      refine r_iconst (pc := 48) (v := 0) dX8_isRight_48 (by decide) ?_
      refine r_bipush (pc := 49) (v := 9) dX8_isRight_49 (by decide) ?_
      refine s_X8_69 (pc := 51) (kc' := 0) (ks' := 0) rfl rfl (am_in _ _ _)  (Nat.le_of_ble_eq_true rfl) (Nat.le_of_ble_eq_true rfl) (Nat.le_of_ble_eq_true rfl) (Nat.le_of_ble_eq_true rfl) (by exact (Nat.le_of_ble_eq_true rfl)) rfl (List.forall_mem_cons.mpr ⟨rfl, (List.forall_mem_cons.mpr ⟨rfl, (List.forall_mem_cons.mpr ⟨rfl, fun _ h => nomatch h⟩)⟩)⟩) rfl dX8_isRight_51 aw_kt (aw_kq ?_)
      refine r_iret (pc := 54) rfl (bi_nar _) dX8_isRight_54 ?_
      exact ⟨by rw [rightP, if_neg h16, if_neg h35], rfl⟩
    · refine r_iload_n (pc := 38) dX8_isRight_38 rfl rfl ?_
      refine r_iconst (pc := 39) (v := 0) dX8_isRight_39 (by decide) ?_
      refine r_iconst (pc := 40) (v := 1) dX8_isRight_40 (by decide) ?_
      refine s_X8_69 (pc := 41) (kc' := 0) (ks' := 0) rfl rfl (am_in _ _ _)  (Nat.le_of_ble_eq_true rfl) (Nat.le_of_ble_eq_true rfl) (Nat.le_of_ble_eq_true rfl) (Nat.le_of_ble_eq_true rfl) (by exact (Nat.le_of_ble_eq_true rfl)) rfl (List.forall_mem_cons.mpr ⟨rfl, (List.forall_mem_cons.mpr ⟨rfl, (List.forall_mem_cons.mpr ⟨rfl, fun _ h => nomatch h⟩)⟩)⟩) rfl dX8_isRight_41 aw_kt (aw_kq ?_)
      refine r_goto (pc := 44) (tgt := 54) dX8_isRight_44 (by decide) ?_
      refine r_iret (pc := 54) rfl (bi_nar _) dX8_isRight_54 ?_
      exact ⟨by rw [rightP, if_neg h16, if_pos h35], rfl⟩
  · refine r_iload_n (pc := 19) dX8_isRight_19 rfl rfl ?_
    refine r_sipush (pc := 20) (v := -999) dX8_isRight_20 (by decide) ?_
    refine r_sipush (pc := 23) (v := 999) dX8_isRight_23 (by decide) ?_
    refine s_X8_69 (pc := 26) (kc' := 0) (ks' := 0) rfl rfl (am_in _ _ _)  (Nat.le_of_ble_eq_true rfl) (Nat.le_of_ble_eq_true rfl) (Nat.le_of_ble_eq_true rfl) (Nat.le_of_ble_eq_true rfl) (by exact (Nat.le_of_ble_eq_true rfl)) rfl (List.forall_mem_cons.mpr ⟨rfl, (List.forall_mem_cons.mpr ⟨rfl, (List.forall_mem_cons.mpr ⟨rfl, fun _ h => nomatch h⟩)⟩)⟩) rfl dX8_isRight_26 aw_kt (aw_kq ?_)
    refine r_goto (pc := 29) (tgt := 54) dX8_isRight_29 (by decide) ?_
    refine r_iret (pc := 54) rfl (bi_nar _) dX8_isRight_54 ?_
    exact ⟨by rw [rightP, if_pos h16], rfl⟩

set_option maxRecDepth 100000 in
set_option maxHeartbeats 4000000 in
theorem la_loop {G : aw_G} {P T : List va_E} {sc : Nat → Int32} {ar : Nat → Nat → Int32} (hP : P.length = 12) {tn vn an : Nat} {R : Nat → List Int32} {vv : Nat → Nat} (hM : MI tn vn an R vv sc ar) (a : Nat) (ha : a < an) (ha20 : a < 20) (r : Nat) : ∀ (m k c : Nat), k + m = 6 → c + cntU (lackF ar R (vv a) a) k m = r → AW G fX8_lacking 0 0 (mw P sc ar T) 4 [some (.ref 12), some (.int (nI a)), some (.int (nI c)), some (.int (nI k))] [] (qx (.inl (some (.int (nI r)))) (mw P sc ar T)) := by
  intro m
  induction m with
  | zero =>
    intro k c hk hc
    refine r_iload_n (pc := 4) dX8_lacking_4 rfl rfl ?_
    refine r_bipush (pc := 5) (v := 6) dX8_lacking_5 (by decide) ?_
    refine r_icmp_ge (pc := 7) (tgt := 47) dX8_lacking_7 (by decide) (fun h7 => ?_) (fun h => absurd (by rw [show k = 6 by omega]; decide) h)
    refine r_iload_n (pc := 47) dX8_lacking_47 rfl rfl ?_
    refine r_iret (pc := 48) rfl rfl dX8_lacking_48 ?_
    have h9 : c = r := hc
    subst h9
    exact ⟨rfl, rfl⟩
  | succ m ih =>
    intro k c hk hc
    refine r_iload_n (pc := 4) dX8_lacking_4 rfl rfl ?_
    refine r_bipush (pc := 5) (v := 6) dX8_lacking_5 (by decide) ?_
    refine r_icmp_ge (pc := 7) (tgt := 47) dX8_lacking_7 (by decide) (fun h => absurd h (nI_ge9 (b := 6) (by omega) (by decide))) (fun h7 => ?_)
    refine r_iload_n (pc := 10) dX8_lacking_10 rfl rfl ?_
    refine r_aload_n (pc := 11) dX8_lacking_11 rfl rfl ?_
    refine r_iload_n (pc := 12) dX8_lacking_12 rfl rfl ?_
    refine r_iload_n (pc := 13) dX8_lacking_13 rfl rfl ?_
    refine s_X8_196 (pc := 14) (kc' := 0) (ks' := 0) rfl rfl (am_canPut hP hM a ha k (by omega)) (mw_o hP) (Nat.le_of_ble_eq_true rfl) (Nat.le_of_ble_eq_true rfl) (Nat.le_of_ble_eq_true rfl) (Nat.le_of_ble_eq_true rfl) (by exact (Nat.le_of_ble_eq_true rfl)) rfl (List.forall_mem_cons.mpr ⟨rfl, (List.forall_mem_cons.mpr ⟨rfl, (List.forall_mem_cons.mpr ⟨rfl, fun _ h => nomatch h⟩)⟩)⟩) rfl dX8_lacking_14 aw_kt (aw_kq ?_)
    refine r_if_eq (pc := 17) (tgt := 38) dX8_lacking_17 (by decide) (fun h17 => ?_) (fun h17 => ?_)
    · refine r_iconst (pc := 38) (v := 0) dX8_lacking_38 (by decide) ?_
      refine r_iadd (pc := 39) dX8_lacking_39 ?_
      refine r_istore_n (pc := 40) dX8_lacking_40 rfl (Nat.le_of_ble_eq_true rfl) rfl ?_
      refine r_iincK (pc := 41) (k9 := 1) dX8_lacking_41 (by decide) rfl (Nat.le_of_ble_eq_true rfl) rfl ?_
      refine r_goto (pc := 44) (tgt := 4) dX8_lacking_44 (by decide) ?_
      have hl : lackF ar R (vv a) a k = false := by rw [lackF, bi_eq.mp h17]; rfl
      rw [nI_1]
      rw [show nI c + 0 = nI c from nI_add c 0]
      exact ih (k + 1) (c ) (by omega) (by rw [← hc, cntU, hl]; simp <;> omega)
    · refine r_aload_n (pc := 20) dX8_lacking_20 rfl rfl ?_
      refine mg_31 (pc := 21) hP rfl dX8_lacking_21 ?_
      refine r_bipush (pc := 24) (v := 6) dX8_lacking_24 (by decide) ?_
      refine r_iload_n (pc := 26) dX8_lacking_26 rfl rfl ?_
      refine r_imul (pc := 27) dX8_lacking_27 ?_
      refine r_iload_n (pc := 28) dX8_lacking_28 rfl rfl ?_
      refine r_iadd (pc := 29) dX8_lacking_29 ?_
      refine mln_10 (pc := 30) (6 * a + k) hP ⟨by rw [n6, nI_add], by omega⟩ dX8_lacking_30 ?_
      refine r_if_ne (pc := 31) (tgt := 38) dX8_lacking_31 (by decide) (fun h31 => ?_) (fun h31 => ?_)
      · refine r_iconst (pc := 38) (v := 0) dX8_lacking_38 (by decide) ?_
        refine r_iadd (pc := 39) dX8_lacking_39 ?_
        refine r_istore_n (pc := 40) dX8_lacking_40 rfl (Nat.le_of_ble_eq_true rfl) rfl ?_
        refine r_iincK (pc := 41) (k9 := 1) dX8_lacking_41 (by decide) rfl (Nat.le_of_ble_eq_true rfl) rfl ?_
        refine r_goto (pc := 44) (tgt := 4) dX8_lacking_44 (by decide) ?_
        have hl : lackF ar R (vv a) a k = false := by rw [lackF, bi_ne.mp h17, decide_eq_false h31]; rfl
        rw [nI_1]
        rw [show nI c + 0 = nI c from nI_add c 0]
        exact ih (k + 1) (c ) (by omega) (by rw [← hc, cntU, hl]; simp <;> omega)
      · refine r_iconst (pc := 34) (v := 1) dX8_lacking_34 (by decide) ?_
        refine r_goto (pc := 35) (tgt := 39) dX8_lacking_35 (by decide) ?_
        refine r_iadd (pc := 39) dX8_lacking_39 ?_
        refine r_istore_n (pc := 40) dX8_lacking_40 rfl (Nat.le_of_ble_eq_true rfl) rfl ?_
        refine r_iincK (pc := 41) (k9 := 1) dX8_lacking_41 (by decide) rfl (Nat.le_of_ble_eq_true rfl) rfl ?_
        refine r_goto (pc := 44) (tgt := 4) dX8_lacking_44 (by decide) ?_
        have hl : lackF ar R (vv a) a k = true := by rw [lackF, bi_ne.mp h17, decide_eq_true h31]; rfl
        rw [nI_1]
        rw [nI_1]
        exact ih (k + 1) (c + 1) (by omega) (by rw [← hc, cntU, hl]; simp <;> omega)
set_option maxRecDepth 100000 in
set_option maxHeartbeats 4000000 in
theorem am_lacking {G : aw_G} {P T : List va_E} {sc : Nat → Int32} {ar : Nat → Nat → Int32} (hP : P.length = 12) {tn vn an : Nat} {R : Nat → List Int32} {vv : Nat → Nat} (hM : MI tn vn an R vv sc ar) (a : Nat) (ha : a < an) : AM G fX8_lacking [.ref 12, .int (nI a)] (mw P sc ar T) (qx (.inl (some (.int (nI (cntU (lackF ar R (vv a) a) 0 6))))) (mw P sc ar T)) := by
  refine AM_of (by decide) rfl rfl (Nat.le_of_ble_eq_true rfl) ?_
  show AW G fX8_lacking 0 0 (mw P sc ar T) 0 [some (.ref 12), some (.int (nI a)), none, none] [] _
  refine r_iconst (pc := 0) (v := 0) dX8_lacking_0 (by decide) ?_
  refine r_istore_n (pc := 1) dX8_lacking_1 rfl (Nat.le_of_ble_eq_true rfl) rfl ?_
  refine r_iconst (pc := 2) (v := 0) dX8_lacking_2 (by decide) ?_
  refine r_istore_n (pc := 3) dX8_lacking_3 rfl (Nat.le_of_ble_eq_true rfl) rfl ?_
  exact la_loop hP hM a ha (by have := hM.2.2.2.2.2.1; omega) _ 6 0 0 rfl (Nat.zero_add _)

set_option maxRecDepth 100000 in
set_option maxHeartbeats 4000000 in
theorem am_areOne {G : aw_G} {P T : List va_E} {sc : Nat → Int32} {ar : Nat → Nat → Int32} (hP : P.length = 12) (x f : Int32) : AM G fX8_areOne [.ref 12, .int x, .int f] (mw P sc ar T) (qx (.inl (some (.int (bi (decide ((0 ≤ x ∧ x ≤ sc 6 - 1) ∧ (0 ≤ f ∧ f ≤ 5))))))) (mw P sc ar T)) := by
  refine AM_of (by decide) rfl rfl (Nat.le_of_ble_eq_true rfl) ?_
  show AW G fX8_areOne 0 0 (mw P sc ar T) 0 [some (.ref 12), some (.int x), some (.int f)] [] _
  refine r_aload_n (pc := 0) dX8_areOne_0 rfl rfl ?_
  refine r_iload_n (pc := 1) dX8_areOne_1 rfl rfl ?_
  refine s_X8_199 (pc := 2) (kc' := 0) (ks' := 0) rfl rfl (am_isAnswer hP _) (mw_o hP) (Nat.le_of_ble_eq_true rfl) (Nat.le_of_ble_eq_true rfl) (Nat.le_of_ble_eq_true rfl) (Nat.le_of_ble_eq_true rfl) (by exact (Nat.le_of_ble_eq_true rfl)) rfl (List.forall_mem_cons.mpr ⟨rfl, (List.forall_mem_cons.mpr ⟨rfl, fun _ h => nomatch h⟩)⟩) rfl dX8_areOne_2 aw_kt (aw_kq ?_)
  refine r_if_eq (pc := 5) (tgt := 19) dX8_areOne_5 (by decide) (fun h5 => ?_) (fun h5 => ?_)
  · refine r_iconst (pc := 19) (v := 0) dX8_areOne_19 (by decide) ?_
    refine r_iret (pc := 20) rfl rfl dX8_areOne_20 ?_
    have h9 := of_decide_eq_false (bi_eq.mp h5)
    exact ⟨by simp only [h9, false_and, decide_false]; rfl, rfl⟩
  · refine r_iload_n (pc := 8) dX8_areOne_8 rfl rfl ?_
    refine s_X8_139 (pc := 9) (kc' := 0) (ks' := 0) rfl rfl (am_isField _)  (Nat.le_of_ble_eq_true rfl) (Nat.le_of_ble_eq_true rfl) (Nat.le_of_ble_eq_true rfl) (Nat.le_of_ble_eq_true rfl) (by exact (Nat.le_of_ble_eq_true rfl)) rfl (List.forall_mem_cons.mpr ⟨rfl, fun _ h => nomatch h⟩) rfl dX8_areOne_9 aw_kt (aw_kq ?_)
    refine r_if_eq (pc := 12) (tgt := 19) dX8_areOne_12 (by decide) (fun h12 => ?_) (fun h12 => ?_)
    · refine r_iconst (pc := 19) (v := 0) dX8_areOne_19 (by decide) ?_
      refine r_iret (pc := 20) rfl rfl dX8_areOne_20 ?_
      have h8 := of_decide_eq_true (bi_ne.mp h5)
      have h9 := of_decide_eq_false (bi_eq.mp h12)
      exact ⟨by simp only [h9, and_false, decide_false]; rfl, rfl⟩
    · refine r_iconst (pc := 15) (v := 1) dX8_areOne_15 (by decide) ?_
      refine r_goto (pc := 16) (tgt := 20) dX8_areOne_16 (by decide) ?_
      refine r_iret (pc := 20) rfl rfl dX8_areOne_20 ?_
      have h8 := of_decide_eq_true (bi_ne.mp h5)
      have h9 := of_decide_eq_true (bi_ne.mp h12)
      exact ⟨by rw [decide_eq_true (And.intro h8 h9)]; rfl, rfl⟩

set_option maxRecDepth 100000 in
set_option maxHeartbeats 4000000 in
theorem am_putX {G : aw_G} {P T : List va_E} {sc : Nat → Int32} {ar : Nat → Nat → Int32} (hP : P.length = 12) (x : Int32) (f : Int32) (v : Int32) (hb : ¬ ((0 ≤ x ∧ x ≤ sc 6 - 1) ∧ (0 ≤ f ∧ f ≤ 5))) : AM G fX8_put [.ref 12, .int x, .int f, .int v] (mw P sc ar T) (qe P T (fun v sc2 ar2 => sc2 = upd sc 12 1 ∧ ar2 = ar)) := by
  refine AM_of (by decide) rfl rfl (Nat.le_of_ble_eq_true rfl) ?_
  show AW G fX8_put 0 0 (mw P sc ar T) 0 [some (.ref 12), some (.int x), some (.int f), some (.int v)] [] _
  refine r_aload_n (pc := 0) dX8_put_0 rfl rfl ?_
  refine r_aload_n (pc := 1) dX8_put_1 rfl rfl ?_
  refine r_iload_n (pc := 2) dX8_put_2 rfl rfl ?_
  refine r_iload_n (pc := 3) dX8_put_3 rfl rfl ?_
  refine s_X8_202 (pc := 4) (kc' := 0) (ks' := 0) rfl rfl (am_areOne hP _ _) (mw_o hP) (Nat.le_of_ble_eq_true rfl) (Nat.le_of_ble_eq_true rfl) (Nat.le_of_ble_eq_true rfl) (Nat.le_of_ble_eq_true rfl) (by exact (Nat.le_of_ble_eq_true rfl)) rfl (List.forall_mem_cons.mpr ⟨rfl, (List.forall_mem_cons.mpr ⟨rfl, (List.forall_mem_cons.mpr ⟨rfl, fun _ h => nomatch h⟩)⟩)⟩) rfl dX8_put_4 aw_kt (aw_kq ?_)
  refine r_if_ne (pc := 7) (tgt := 14) dX8_put_7 (by decide) (fun h => absurd (bi_ne.mp h) (by rw [decide_eq_false hb]; decide)) (fun h7 => ?_)
  refine r_iconst (pc := 10) (v := 1) dX8_put_10 (by decide) ?_
  refine r_goto (pc := 11) (tgt := 51) dX8_put_11 (by decide) ?_
  refine mp_66 (pc := 51) hP rfl dX8_put_51 ?_
  refine r_aload_n (pc := 54) dX8_put_54 rfl rfl ?_
  refine mgv_66 (pc := 55) (x := 1) hP rfl rfl dX8_put_55 ?_
  refine r_if_le (pc := 58) (tgt := 63) dX8_put_58 (by decide) (fun h => absurd h (by decide)) (fun _ => ?_)
  refine r_iconst (pc := 61) (v := 0) dX8_put_61 (by decide) ?_
  refine r_iret (pc := 62) rfl rfl dX8_put_62 ?_
  exact ⟨0, _, _, rfl, rfl, rfl, rfl⟩

set_option maxRecDepth 100000 in
set_option maxHeartbeats 4000000 in
theorem am_amendX {G : aw_G} {P T : List va_E} {sc : Nat → Int32} {ar : Nat → Nat → Int32} (hP : P.length = 12) (x : Int32) (f : Int32) (v : Int32) (hb : ¬ ((0 ≤ x ∧ x ≤ sc 6 - 1) ∧ (0 ≤ f ∧ f ≤ 5))) : AM G fX8_amend [.ref 12, .int x, .int f, .int v] (mw P sc ar T) (qe P T (fun v sc2 ar2 => sc2 = upd sc 12 1 ∧ ar2 = ar)) := by
  refine AM_of (by decide) rfl rfl (Nat.le_of_ble_eq_true rfl) ?_
  show AW G fX8_amend 0 0 (mw P sc ar T) 0 [some (.ref 12), some (.int x), some (.int f), some (.int v)] [] _
  refine r_aload_n (pc := 0) dX8_amend_0 rfl rfl ?_
  refine r_aload_n (pc := 1) dX8_amend_1 rfl rfl ?_
  refine r_iload_n (pc := 2) dX8_amend_2 rfl rfl ?_
  refine r_iload_n (pc := 3) dX8_amend_3 rfl rfl ?_
  refine s_X8_202 (pc := 4) (kc' := 0) (ks' := 0) rfl rfl (am_areOne hP _ _) (mw_o hP) (Nat.le_of_ble_eq_true rfl) (Nat.le_of_ble_eq_true rfl) (Nat.le_of_ble_eq_true rfl) (Nat.le_of_ble_eq_true rfl) (by exact (Nat.le_of_ble_eq_true rfl)) rfl (List.forall_mem_cons.mpr ⟨rfl, (List.forall_mem_cons.mpr ⟨rfl, (List.forall_mem_cons.mpr ⟨rfl, fun _ h => nomatch h⟩)⟩)⟩) rfl dX8_amend_4 aw_kt (aw_kq ?_)
  refine r_if_ne (pc := 7) (tgt := 14) dX8_amend_7 (by decide) (fun h => absurd (bi_ne.mp h) (by rw [decide_eq_false hb]; decide)) (fun h7 => ?_)
  refine r_iconst (pc := 10) (v := 1) dX8_amend_10 (by decide) ?_
  refine r_goto (pc := 11) (tgt := 52) dX8_amend_11 (by decide) ?_
  refine mp_66 (pc := 52) hP rfl dX8_amend_52 ?_
  refine r_aload_n (pc := 55) dX8_amend_55 rfl rfl ?_
  refine mgv_66 (pc := 56) (x := 1) hP rfl rfl dX8_amend_56 ?_
  refine r_if_le (pc := 59) (tgt := 64) dX8_amend_59 (by decide) (fun h => absurd h (by decide)) (fun _ => ?_)
  refine r_iconst (pc := 62) (v := 0) dX8_amend_62 (by decide) ?_
  refine r_iret (pc := 63) rfl rfl dX8_amend_63 ?_
  exact ⟨0, _, _, rfl, rfl, rfl, rfl⟩

set_option maxRecDepth 100000 in
set_option maxHeartbeats 4000000 in
theorem am_doubtX {G : aw_G} {P T : List va_E} {sc : Nat → Int32} {ar : Nat → Nat → Int32} (hP : P.length = 12) (x : Int32) (f : Int32) (hb : ¬ ((0 ≤ x ∧ x ≤ sc 6 - 1) ∧ (0 ≤ f ∧ f ≤ 5))) : AM G fX8_doubt [.ref 12, .int x, .int f] (mw P sc ar T) (qe P T (fun v sc2 ar2 => sc2 = upd sc 12 1 ∧ ar2 = ar)) := by
  refine AM_of (by decide) rfl rfl (Nat.le_of_ble_eq_true rfl) ?_
  show AW G fX8_doubt 0 0 (mw P sc ar T) 0 [some (.ref 12), some (.int x), some (.int f), none] [] _
  refine r_aload_n (pc := 0) dX8_doubt_0 rfl rfl ?_
  refine r_aload_n (pc := 1) dX8_doubt_1 rfl rfl ?_
  refine r_iload_n (pc := 2) dX8_doubt_2 rfl rfl ?_
  refine r_iload_n (pc := 3) dX8_doubt_3 rfl rfl ?_
  refine s_X8_202 (pc := 4) (kc' := 0) (ks' := 0) rfl rfl (am_areOne hP _ _) (mw_o hP) (Nat.le_of_ble_eq_true rfl) (Nat.le_of_ble_eq_true rfl) (Nat.le_of_ble_eq_true rfl) (Nat.le_of_ble_eq_true rfl) (by exact (Nat.le_of_ble_eq_true rfl)) rfl (List.forall_mem_cons.mpr ⟨rfl, (List.forall_mem_cons.mpr ⟨rfl, (List.forall_mem_cons.mpr ⟨rfl, fun _ h => nomatch h⟩)⟩)⟩) rfl dX8_doubt_4 aw_kt (aw_kq ?_)
  refine r_if_ne (pc := 7) (tgt := 14) dX8_doubt_7 (by decide) (fun h => absurd (bi_ne.mp h) (by rw [decide_eq_false hb]; decide)) (fun h7 => ?_)
  refine r_iconst (pc := 10) (v := 1) dX8_doubt_10 (by decide) ?_
  refine r_goto (pc := 11) (tgt := 53) dX8_doubt_11 (by decide) ?_
  refine mp_66 (pc := 53) hP rfl dX8_doubt_53 ?_
  refine r_aload_n (pc := 56) dX8_doubt_56 rfl rfl ?_
  refine mgv_66 (pc := 57) (x := 1) hP rfl rfl dX8_doubt_57 ?_
  refine r_if_le (pc := 60) (tgt := 65) dX8_doubt_60 (by decide) (fun h => absurd h (by decide)) (fun _ => ?_)
  refine r_iconst (pc := 63) (v := 0) dX8_doubt_63 (by decide) ?_
  refine r_iret (pc := 64) rfl rfl dX8_doubt_64 ?_
  exact ⟨0, _, _, rfl, rfl, rfl, rfl⟩

set_option maxRecDepth 100000 in
set_option maxHeartbeats 4000000 in
theorem am_settleX {G : aw_G} {P T : List va_E} {sc : Nat → Int32} {ar : Nat → Nat → Int32} (hP : P.length = 12) (x : Int32) (f : Int32) (b : Int32) (hb : ¬ ((0 ≤ x ∧ x ≤ sc 6 - 1) ∧ (0 ≤ f ∧ f ≤ 5))) : AM G fX8_settle [.ref 12, .int x, .int f, .int b] (mw P sc ar T) (qe P T (fun v sc2 ar2 => sc2 = upd sc 12 1 ∧ ar2 = ar)) := by
  refine AM_of (by decide) rfl rfl (Nat.le_of_ble_eq_true rfl) ?_
  show AW G fX8_settle 0 0 (mw P sc ar T) 0 [some (.ref 12), some (.int x), some (.int f), some (.int b)] [] _
  refine r_aload_n (pc := 0) dX8_settle_0 rfl rfl ?_
  refine r_aload_n (pc := 1) dX8_settle_1 rfl rfl ?_
  refine r_iload_n (pc := 2) dX8_settle_2 rfl rfl ?_
  refine r_iload_n (pc := 3) dX8_settle_3 rfl rfl ?_
  refine s_X8_202 (pc := 4) (kc' := 0) (ks' := 0) rfl rfl (am_areOne hP _ _) (mw_o hP) (Nat.le_of_ble_eq_true rfl) (Nat.le_of_ble_eq_true rfl) (Nat.le_of_ble_eq_true rfl) (Nat.le_of_ble_eq_true rfl) (by exact (Nat.le_of_ble_eq_true rfl)) rfl (List.forall_mem_cons.mpr ⟨rfl, (List.forall_mem_cons.mpr ⟨rfl, (List.forall_mem_cons.mpr ⟨rfl, fun _ h => nomatch h⟩)⟩)⟩) rfl dX8_settle_4 aw_kt (aw_kq ?_)
  refine r_if_ne (pc := 7) (tgt := 14) dX8_settle_7 (by decide) (fun h => absurd (bi_ne.mp h) (by rw [decide_eq_false hb]; decide)) (fun h7 => ?_)
  refine r_iconst (pc := 10) (v := 1) dX8_settle_10 (by decide) ?_
  refine r_goto (pc := 11) (tgt := 42) dX8_settle_11 (by decide) ?_
  refine mp_66 (pc := 42) hP rfl dX8_settle_42 ?_
  refine r_aload_n (pc := 45) dX8_settle_45 rfl rfl ?_
  refine mgv_66 (pc := 46) (x := 1) hP rfl rfl dX8_settle_46 ?_
  refine r_if_le (pc := 49) (tgt := 54) dX8_settle_49 (by decide) (fun h => absurd h (by decide)) (fun _ => ?_)
  refine r_iconst (pc := 52) (v := 0) dX8_settle_52 (by decide) ?_
  refine r_iret (pc := 53) rfl rfl dX8_settle_53 ?_
  exact ⟨0, _, _, rfl, rfl, rfl, rfl⟩

set_option maxRecDepth 100000 in
set_option maxHeartbeats 4000000 in
theorem am_valueX {G : aw_G} {P T : List va_E} {sc : Nat → Int32} {ar : Nat → Nat → Int32} (hP : P.length = 12) (x : Int32) (f : Int32) (hb : ¬ ((0 ≤ x ∧ x ≤ sc 6 - 1) ∧ (0 ≤ f ∧ f ≤ 5))) : AM G fX8_value [.ref 12, .int x, .int f] (mw P sc ar T) (qe P T (fun v sc2 ar2 => sc2 = upd sc 12 1 ∧ ar2 = ar)) := by
  refine AM_of (by decide) rfl rfl (Nat.le_of_ble_eq_true rfl) ?_
  show AW G fX8_value 0 0 (mw P sc ar T) 0 [some (.ref 12), some (.int x), some (.int f)] [] _
  refine r_aload_n (pc := 0) dX8_value_0 rfl rfl ?_
  refine r_aload_n (pc := 1) dX8_value_1 rfl rfl ?_
  refine r_iload_n (pc := 2) dX8_value_2 rfl rfl ?_
  refine r_iload_n (pc := 3) dX8_value_3 rfl rfl ?_
  refine s_X8_202 (pc := 4) (kc' := 0) (ks' := 0) rfl rfl (am_areOne hP _ _) (mw_o hP) (Nat.le_of_ble_eq_true rfl) (Nat.le_of_ble_eq_true rfl) (Nat.le_of_ble_eq_true rfl) (Nat.le_of_ble_eq_true rfl) (by exact (Nat.le_of_ble_eq_true rfl)) rfl (List.forall_mem_cons.mpr ⟨rfl, (List.forall_mem_cons.mpr ⟨rfl, (List.forall_mem_cons.mpr ⟨rfl, fun _ h => nomatch h⟩)⟩)⟩) rfl dX8_value_4 aw_kt (aw_kq ?_)
  refine r_if_ne (pc := 7) (tgt := 14) dX8_value_7 (by decide) (fun h => absurd (bi_ne.mp h) (by rw [decide_eq_false hb]; decide)) (fun h7 => ?_)
  refine r_iconst (pc := 10) (v := 1) dX8_value_10 (by decide) ?_
  refine r_goto (pc := 11) (tgt := 33) dX8_value_11 (by decide) ?_
  refine mp_66 (pc := 33) hP rfl dX8_value_33 ?_
  refine r_aload_n (pc := 36) dX8_value_36 rfl rfl ?_
  refine mgv_66 (pc := 37) (x := 1) hP rfl rfl dX8_value_37 ?_
  refine r_if_ne (pc := 40) (tgt := 57) dX8_value_40 (by decide) (fun _ => ?_) (fun h => absurd h (by decide))
  refine r_iconst (pc := 57) (v := 0) dX8_value_57 (by decide) ?_
  refine r_iret (pc := 58) rfl rfl dX8_value_58 ?_
  exact ⟨0, _, _, rfl, rfl, rfl, rfl⟩

set_option maxRecDepth 100000 in
set_option maxHeartbeats 4000000 in
theorem am_handInX {G : aw_G} {P T : List va_E} {sc : Nat → Int32} {ar : Nat → Nat → Int32} (hP : P.length = 12) (x : Int32) (hb : ¬ (0 ≤ x ∧ x ≤ sc 6 - 1)) : AM G fX8_handIn [.ref 12, .int x] (mw P sc ar T) (qe P T (fun v sc2 ar2 => sc2 = upd sc 12 1 ∧ ar2 = ar)) := by
  refine AM_of (by decide) rfl rfl (Nat.le_of_ble_eq_true rfl) ?_
  show AW G fX8_handIn 0 0 (mw P sc ar T) 0 [some (.ref 12), some (.int x)] [] _
  refine r_aload_n (pc := 0) dX8_handIn_0 rfl rfl ?_
  refine r_aload_n (pc := 1) dX8_handIn_1 rfl rfl ?_
  refine r_iload_n (pc := 2) dX8_handIn_2 rfl rfl ?_
  refine s_X8_199 (pc := 3) (kc' := 0) (ks' := 0) rfl rfl (am_isAnswer hP _) (mw_o hP) (Nat.le_of_ble_eq_true rfl) (Nat.le_of_ble_eq_true rfl) (Nat.le_of_ble_eq_true rfl) (Nat.le_of_ble_eq_true rfl) (by exact (Nat.le_of_ble_eq_true rfl)) rfl (List.forall_mem_cons.mpr ⟨rfl, (List.forall_mem_cons.mpr ⟨rfl, fun _ h => nomatch h⟩)⟩) rfl dX8_handIn_3 aw_kt (aw_kq ?_)
  refine r_if_ne (pc := 6) (tgt := 13) dX8_handIn_6 (by decide) (fun h => absurd (bi_ne.mp h) (by rw [decide_eq_false hb]; decide)) (fun h6 => ?_)
  refine r_iconst (pc := 9) (v := 1) dX8_handIn_9 (by decide) ?_
  refine r_goto (pc := 10) (tgt := 35) dX8_handIn_10 (by decide) ?_
  refine mp_66 (pc := 35) hP rfl dX8_handIn_35 ?_
  refine r_aload_n (pc := 38) dX8_handIn_38 rfl rfl ?_
  refine mgv_66 (pc := 39) (x := 1) hP rfl rfl dX8_handIn_39 ?_
  refine r_if_ne (pc := 42) (tgt := 53) dX8_handIn_42 (by decide) (fun _ => ?_) (fun h => absurd h (by decide))
  refine r_iconst (pc := 53) (v := 0) dX8_handIn_53 (by decide) ?_
  refine r_iret (pc := 54) rfl rfl dX8_handIn_54 ?_
  exact ⟨0, _, _, rfl, rfl, rfl, rfl⟩

set_option maxRecDepth 100000 in
set_option maxHeartbeats 4000000 in
theorem am_refusalX {G : aw_G} {P T : List va_E} {sc : Nat → Int32} {ar : Nat → Nat → Int32} (hP : P.length = 12) (x : Int32) (hb : ¬ (0 ≤ x ∧ x ≤ sc 6 - 1)) : AM G fX8_refusal [.ref 12, .int x] (mw P sc ar T) (qe P T (fun v sc2 ar2 => sc2 = upd sc 12 1 ∧ ar2 = ar)) := by
  refine AM_of (by decide) rfl rfl (Nat.le_of_ble_eq_true rfl) ?_
  show AW G fX8_refusal 0 0 (mw P sc ar T) 0 [some (.ref 12), some (.int x)] [] _
  refine r_aload_n (pc := 0) dX8_refusal_0 rfl rfl ?_
  refine r_aload_n (pc := 1) dX8_refusal_1 rfl rfl ?_
  refine r_iload_n (pc := 2) dX8_refusal_2 rfl rfl ?_
  refine s_X8_199 (pc := 3) (kc' := 0) (ks' := 0) rfl rfl (am_isAnswer hP _) (mw_o hP) (Nat.le_of_ble_eq_true rfl) (Nat.le_of_ble_eq_true rfl) (Nat.le_of_ble_eq_true rfl) (Nat.le_of_ble_eq_true rfl) (by exact (Nat.le_of_ble_eq_true rfl)) rfl (List.forall_mem_cons.mpr ⟨rfl, (List.forall_mem_cons.mpr ⟨rfl, fun _ h => nomatch h⟩)⟩) rfl dX8_refusal_3 aw_kt (aw_kq ?_)
  refine r_if_ne (pc := 6) (tgt := 13) dX8_refusal_6 (by decide) (fun h => absurd (bi_ne.mp h) (by rw [decide_eq_false hb]; decide)) (fun h6 => ?_)
  refine r_iconst (pc := 9) (v := 1) dX8_refusal_9 (by decide) ?_
  refine r_goto (pc := 10) (tgt := 27) dX8_refusal_10 (by decide) ?_
  refine mp_66 (pc := 27) hP rfl dX8_refusal_27 ?_
  refine r_aload_n (pc := 30) dX8_refusal_30 rfl rfl ?_
  refine mgv_66 (pc := 31) (x := 1) hP rfl rfl dX8_refusal_31 ?_
  refine r_if_ne (pc := 34) (tgt := 45) dX8_refusal_34 (by decide) (fun _ => ?_) (fun h => absurd h (by decide))
  refine r_iconst (pc := 45) (v := 0) dX8_refusal_45 (by decide) ?_
  refine r_iret (pc := 46) rfl rfl dX8_refusal_46 ?_
  exact ⟨0, _, _, rfl, rfl, rfl, rfl⟩

set_option maxRecDepth 100000 in
set_option maxHeartbeats 4000000 in
theorem am_asksFor {G : aw_G} {P T : List va_E} {sc : Nat → Int32} {ar : Nat → Nat → Int32} (hP : P.length = 12) (x : Int32) : AM G fX8_asksFor [.ref 12, .int x] (mw P sc ar T) (qx (.inl (some (.int (bi (decide (0 ≤ x ∧ x ≤ sc 6 - 1)))))) (mw P (upd sc 12 (bi (decide (¬ (0 ≤ x ∧ x ≤ sc 6 - 1))))) ar T)) := by
  refine AM_of (by decide) rfl rfl (Nat.le_of_ble_eq_true rfl) ?_
  show AW G fX8_asksFor 0 0 (mw P sc ar T) 0 [some (.ref 12), some (.int x)] [] _
  refine r_aload_n (pc := 0) dX8_asksFor_0 rfl rfl ?_
  refine r_aload_n (pc := 1) dX8_asksFor_1 rfl rfl ?_
  refine r_iload_n (pc := 2) dX8_asksFor_2 rfl rfl ?_
  refine s_X8_199 (pc := 3) (kc' := 0) (ks' := 0) rfl rfl (am_isAnswer hP _) (mw_o hP) (Nat.le_of_ble_eq_true rfl) (Nat.le_of_ble_eq_true rfl) (Nat.le_of_ble_eq_true rfl) (Nat.le_of_ble_eq_true rfl) (by exact (Nat.le_of_ble_eq_true rfl)) rfl (List.forall_mem_cons.mpr ⟨rfl, (List.forall_mem_cons.mpr ⟨rfl, fun _ h => nomatch h⟩)⟩) rfl dX8_asksFor_3 aw_kt (aw_kq ?_)
  refine r_if_eq (pc := 6) (tgt := 13) dX8_asksFor_6 (by decide) (fun h6 => ?_) (fun h6 => ?_)
  · refine r_iconst (pc := 13) (v := 1) dX8_asksFor_13 (by decide) ?_
    refine mp_66 (pc := 14) hP rfl dX8_asksFor_14 ?_
    refine r_aload_n (pc := 17) dX8_asksFor_17 rfl rfl ?_
    refine mgv_66 (pc := 18) (x := 1) hP rfl rfl dX8_asksFor_18 ?_
    refine r_if_ne (pc := 21) (tgt := 28) dX8_asksFor_21 (by decide) (fun _ => ?_) (fun h => absurd h (by decide))
    refine r_iconst (pc := 28) (v := 0) dX8_asksFor_28 (by decide) ?_
    refine r_iret (pc := 29) rfl rfl dX8_asksFor_29 ?_
    have h9 := of_decide_eq_false (bi_eq.mp h6)
    rw [decide_eq_false h9, decide_eq_true h9]
    exact ⟨rfl, rfl⟩
  · refine r_iconst (pc := 9) (v := 0) dX8_asksFor_9 (by decide) ?_
    refine r_goto (pc := 10) (tgt := 14) dX8_asksFor_10 (by decide) ?_
    refine mp_66 (pc := 14) hP rfl dX8_asksFor_14 ?_
    refine r_aload_n (pc := 17) dX8_asksFor_17 rfl rfl ?_
    refine mgv_66 (pc := 18) (x := 0) hP rfl rfl dX8_asksFor_18 ?_
    refine r_if_ne (pc := 21) (tgt := 28) dX8_asksFor_21 (by decide) (fun h => absurd h (by decide)) (fun _ => ?_)
    refine r_iconst (pc := 24) (v := 1) dX8_asksFor_24 (by decide) ?_
    refine r_goto (pc := 25) (tgt := 29) dX8_asksFor_25 (by decide) ?_
    refine r_iret (pc := 29) rfl rfl dX8_asksFor_29 ?_
    have h9 := of_decide_eq_true (bi_ne.mp h6)
    rw [decide_eq_true h9, decide_eq_false (fun z => z h9)]
    exact ⟨rfl, rfl⟩

set_option maxRecDepth 100000 in
set_option maxHeartbeats 4000000 in
theorem am_stateOfX {G : aw_G} {P T : List va_E} {sc : Nat → Int32} {ar : Nat → Nat → Int32} (hP : P.length = 12) (x : Int32) (hb : ¬ (0 ≤ x ∧ x ≤ sc 6 - 1)) : AM G fX8_stateOf [.ref 12, .int x] (mw P sc ar T) (qe P T (fun v sc2 ar2 => sc2 = upd sc 12 1 ∧ ar2 = ar)) := by
  refine AM_of (by decide) rfl rfl (Nat.le_of_ble_eq_true rfl) ?_
  show AW G fX8_stateOf 0 0 (mw P sc ar T) 0 [some (.ref 12), some (.int x)] [] _
  refine r_aload_n (pc := 0) dX8_stateOf_0 rfl rfl ?_
  refine r_iload_n (pc := 1) dX8_stateOf_1 rfl rfl ?_
  refine s_X8_223 (pc := 2) (kc' := 0) (ks' := 0) rfl rfl (am_asksFor hP _) (mw_o hP) (Nat.le_of_ble_eq_true rfl) (Nat.le_of_ble_eq_true rfl) (Nat.le_of_ble_eq_true rfl) (Nat.le_of_ble_eq_true rfl) (by exact (Nat.le_of_ble_eq_true rfl)) rfl (List.forall_mem_cons.mpr ⟨rfl, (List.forall_mem_cons.mpr ⟨rfl, fun _ h => nomatch h⟩)⟩) rfl dX8_stateOf_2 aw_kt (aw_kq ?_)
  refine r_if_eq (pc := 5) (tgt := 17) dX8_stateOf_5 (by decide) (fun h5 => ?_) (fun h => absurd (bi_ne.mp h) (by rw [decide_eq_false hb]; decide))
  refine r_iconst (pc := 17) (v := 0) dX8_stateOf_17 (by decide) ?_
  refine r_iret (pc := 18) rfl rfl dX8_stateOf_18 ?_
  exact ⟨0, _, _, rfl, rfl, by rw [decide_eq_true hb]; rfl, rfl⟩

set_option maxRecDepth 100000 in
set_option maxHeartbeats 4000000 in
theorem am_stateOf {G : aw_G} {P T : List va_E} {sc : Nat → Int32} {ar : Nat → Nat → Int32} (hP : P.length = 12) {tn vn an : Nat} {R : Nat → List Int32} {vv : Nat → Nat} (hM : MI tn vn an R vv sc ar) (a : Nat) (ha : a < an) : AM G fX8_stateOf [.ref 12, .int (nI a)] (mw P sc ar T) (qe P T (fun v sc2 ar2 => sc2 = upd sc 12 0 ∧ ar2 = ar ∧ v = ar 7 a)) := by
  refine AM_of (by decide) rfl rfl (Nat.le_of_ble_eq_true rfl) ?_
  show AW G fX8_stateOf 0 0 (mw P sc ar T) 0 [some (.ref 12), some (.int (nI a))] [] _
  have hv := (hM.2.2.2.2.2.2.2 a ha).1
  have hvl : vv a < 10 := by have := (hM.2.2.2.2.2.2.2 a ha).2; have := hM.2.2.2.1; omega
  have ha20 : a < 20 := by have := hM.2.2.2.2.2.1; omega
  have hR := hM.2.2.2.2.2.2.1
  refine r_aload_n (pc := 0) dX8_stateOf_0 rfl rfl ?_
  refine r_iload_n (pc := 1) dX8_stateOf_1 rfl rfl ?_
  refine s_X8_223 (pc := 2) (kc' := 0) (ks' := 0) rfl rfl (am_asksFor hP _) (mw_o hP) (Nat.le_of_ble_eq_true rfl) (Nat.le_of_ble_eq_true rfl) (Nat.le_of_ble_eq_true rfl) (Nat.le_of_ble_eq_true rfl) (by exact (Nat.le_of_ble_eq_true rfl)) rfl (List.forall_mem_cons.mpr ⟨rfl, (List.forall_mem_cons.mpr ⟨rfl, fun _ h => nomatch h⟩)⟩) rfl dX8_stateOf_2 aw_kt (aw_kq ?_)
  refine r_if_eq (pc := 5) (tgt := 17) dX8_stateOf_5 (by decide) (fun h => absurd (bi_eq.mp h) (by rw [decide_eq_true (show (0 ≤ nI a ∧ nI a ≤ sc 6 - 1) from by rw [hM.2.2.2.2.1]; exact inV_of ha hM.2.2.2.2.2.1)]; decide)) (fun h5 => ?_)
  refine r_aload_n (pc := 8) dX8_stateOf_8 rfl rfl ?_
  refine mg_22 (pc := 9) hP rfl dX8_stateOf_9 ?_
  refine r_iload_n (pc := 12) dX8_stateOf_12 rfl rfl ?_
  refine mln_7 (pc := 13) (a) hP ⟨rfl, ha20⟩ dX8_stateOf_13 ?_
  refine r_goto (pc := 14) (tgt := 18) dX8_stateOf_14 (by decide) ?_
  refine r_iret (pc := 18) rfl rfl dX8_stateOf_18 ?_
  exact ⟨_, _, _, rfl, rfl, by rw [decide_eq_false (fun z => z (show (0 ≤ nI a ∧ nI a ≤ sc 6 - 1) from by rw [hM.2.2.2.2.1]; exact inV_of ha hM.2.2.2.2.2.1))]; rfl, rfl, rfl⟩

set_option maxRecDepth 100000 in
set_option maxHeartbeats 4000000 in
theorem am_versionOfX {G : aw_G} {P T : List va_E} {sc : Nat → Int32} {ar : Nat → Nat → Int32} (hP : P.length = 12) (x : Int32) (hb : ¬ (0 ≤ x ∧ x ≤ sc 6 - 1)) : AM G fX8_versionOf [.ref 12, .int x] (mw P sc ar T) (qe P T (fun v sc2 ar2 => sc2 = upd sc 12 1 ∧ ar2 = ar)) := by
  refine AM_of (by decide) rfl rfl (Nat.le_of_ble_eq_true rfl) ?_
  show AW G fX8_versionOf 0 0 (mw P sc ar T) 0 [some (.ref 12), some (.int x)] [] _
  refine r_aload_n (pc := 0) dX8_versionOf_0 rfl rfl ?_
  refine r_iload_n (pc := 1) dX8_versionOf_1 rfl rfl ?_
  refine s_X8_223 (pc := 2) (kc' := 0) (ks' := 0) rfl rfl (am_asksFor hP _) (mw_o hP) (Nat.le_of_ble_eq_true rfl) (Nat.le_of_ble_eq_true rfl) (Nat.le_of_ble_eq_true rfl) (Nat.le_of_ble_eq_true rfl) (by exact (Nat.le_of_ble_eq_true rfl)) rfl (List.forall_mem_cons.mpr ⟨rfl, (List.forall_mem_cons.mpr ⟨rfl, fun _ h => nomatch h⟩)⟩) rfl dX8_versionOf_2 aw_kt (aw_kq ?_)
  refine r_if_eq (pc := 5) (tgt := 17) dX8_versionOf_5 (by decide) (fun h5 => ?_) (fun h => absurd (bi_ne.mp h) (by rw [decide_eq_false hb]; decide))
  refine r_iconst (pc := 17) (v := 0) dX8_versionOf_17 (by decide) ?_
  refine r_iret (pc := 18) rfl rfl dX8_versionOf_18 ?_
  exact ⟨0, _, _, rfl, rfl, by rw [decide_eq_true hb]; rfl, rfl⟩

set_option maxRecDepth 100000 in
set_option maxHeartbeats 4000000 in
theorem am_versionOf {G : aw_G} {P T : List va_E} {sc : Nat → Int32} {ar : Nat → Nat → Int32} (hP : P.length = 12) {tn vn an : Nat} {R : Nat → List Int32} {vv : Nat → Nat} (hM : MI tn vn an R vv sc ar) (a : Nat) (ha : a < an) : AM G fX8_versionOf [.ref 12, .int (nI a)] (mw P sc ar T) (qe P T (fun v sc2 ar2 => sc2 = upd sc 12 0 ∧ ar2 = ar ∧ v = ar 8 a)) := by
  refine AM_of (by decide) rfl rfl (Nat.le_of_ble_eq_true rfl) ?_
  show AW G fX8_versionOf 0 0 (mw P sc ar T) 0 [some (.ref 12), some (.int (nI a))] [] _
  have hv := (hM.2.2.2.2.2.2.2 a ha).1
  have hvl : vv a < 10 := by have := (hM.2.2.2.2.2.2.2 a ha).2; have := hM.2.2.2.1; omega
  have ha20 : a < 20 := by have := hM.2.2.2.2.2.1; omega
  have hR := hM.2.2.2.2.2.2.1
  refine r_aload_n (pc := 0) dX8_versionOf_0 rfl rfl ?_
  refine r_iload_n (pc := 1) dX8_versionOf_1 rfl rfl ?_
  refine s_X8_223 (pc := 2) (kc' := 0) (ks' := 0) rfl rfl (am_asksFor hP _) (mw_o hP) (Nat.le_of_ble_eq_true rfl) (Nat.le_of_ble_eq_true rfl) (Nat.le_of_ble_eq_true rfl) (Nat.le_of_ble_eq_true rfl) (by exact (Nat.le_of_ble_eq_true rfl)) rfl (List.forall_mem_cons.mpr ⟨rfl, (List.forall_mem_cons.mpr ⟨rfl, fun _ h => nomatch h⟩)⟩) rfl dX8_versionOf_2 aw_kt (aw_kq ?_)
  refine r_if_eq (pc := 5) (tgt := 17) dX8_versionOf_5 (by decide) (fun h => absurd (bi_eq.mp h) (by rw [decide_eq_true (show (0 ≤ nI a ∧ nI a ≤ sc 6 - 1) from by rw [hM.2.2.2.2.1]; exact inV_of ha hM.2.2.2.2.2.1)]; decide)) (fun h5 => ?_)
  refine r_aload_n (pc := 8) dX8_versionOf_8 rfl rfl ?_
  refine mg_25 (pc := 9) hP rfl dX8_versionOf_9 ?_
  refine r_iload_n (pc := 12) dX8_versionOf_12 rfl rfl ?_
  refine mln_8 (pc := 13) (a) hP ⟨rfl, ha20⟩ dX8_versionOf_13 ?_
  refine r_goto (pc := 14) (tgt := 18) dX8_versionOf_14 (by decide) ?_
  refine r_iret (pc := 18) rfl rfl dX8_versionOf_18 ?_
  exact ⟨_, _, _, rfl, rfl, by rw [decide_eq_false (fun z => z (show (0 ≤ nI a ∧ nI a ≤ sc 6 - 1) from by rw [hM.2.2.2.2.1]; exact inV_of ha hM.2.2.2.2.2.1))]; rfl, rfl, rfl⟩

set_option maxRecDepth 100000 in
set_option maxHeartbeats 4000000 in
theorem am_doubtsX {G : aw_G} {P T : List va_E} {sc : Nat → Int32} {ar : Nat → Nat → Int32} (hP : P.length = 12) (x : Int32) (hb : ¬ (0 ≤ x ∧ x ≤ sc 6 - 1)) : AM G fX8_doubts [.ref 12, .int x] (mw P sc ar T) (qe P T (fun v sc2 ar2 => sc2 = upd sc 12 1 ∧ ar2 = ar)) := by
  refine AM_of (by decide) rfl rfl (Nat.le_of_ble_eq_true rfl) ?_
  show AW G fX8_doubts 0 0 (mw P sc ar T) 0 [some (.ref 12), some (.int x)] [] _
  refine r_aload_n (pc := 0) dX8_doubts_0 rfl rfl ?_
  refine r_iload_n (pc := 1) dX8_doubts_1 rfl rfl ?_
  refine s_X8_223 (pc := 2) (kc' := 0) (ks' := 0) rfl rfl (am_asksFor hP _) (mw_o hP) (Nat.le_of_ble_eq_true rfl) (Nat.le_of_ble_eq_true rfl) (Nat.le_of_ble_eq_true rfl) (Nat.le_of_ble_eq_true rfl) (by exact (Nat.le_of_ble_eq_true rfl)) rfl (List.forall_mem_cons.mpr ⟨rfl, (List.forall_mem_cons.mpr ⟨rfl, fun _ h => nomatch h⟩)⟩) rfl dX8_doubts_2 aw_kt (aw_kq ?_)
  refine r_if_eq (pc := 5) (tgt := 17) dX8_doubts_5 (by decide) (fun h5 => ?_) (fun h => absurd (bi_ne.mp h) (by rw [decide_eq_false hb]; decide))
  refine r_iconst (pc := 17) (v := 0) dX8_doubts_17 (by decide) ?_
  refine r_iret (pc := 18) rfl rfl dX8_doubts_18 ?_
  exact ⟨0, _, _, rfl, rfl, by rw [decide_eq_true hb]; rfl, rfl⟩

set_option maxRecDepth 100000 in
set_option maxHeartbeats 4000000 in
theorem am_doubts {G : aw_G} {P T : List va_E} {sc : Nat → Int32} {ar : Nat → Nat → Int32} (hP : P.length = 12) {tn vn an : Nat} {R : Nat → List Int32} {vv : Nat → Nat} (hM : MI tn vn an R vv sc ar) (a : Nat) (ha : a < an) : AM G fX8_doubts [.ref 12, .int (nI a)] (mw P sc ar T) (qe P T (fun v sc2 ar2 => sc2 = upd sc 12 0 ∧ ar2 = ar ∧ v = ar 11 a)) := by
  refine AM_of (by decide) rfl rfl (Nat.le_of_ble_eq_true rfl) ?_
  show AW G fX8_doubts 0 0 (mw P sc ar T) 0 [some (.ref 12), some (.int (nI a))] [] _
  have hv := (hM.2.2.2.2.2.2.2 a ha).1
  have hvl : vv a < 10 := by have := (hM.2.2.2.2.2.2.2 a ha).2; have := hM.2.2.2.1; omega
  have ha20 : a < 20 := by have := hM.2.2.2.2.2.1; omega
  have hR := hM.2.2.2.2.2.2.1
  refine r_aload_n (pc := 0) dX8_doubts_0 rfl rfl ?_
  refine r_iload_n (pc := 1) dX8_doubts_1 rfl rfl ?_
  refine s_X8_223 (pc := 2) (kc' := 0) (ks' := 0) rfl rfl (am_asksFor hP _) (mw_o hP) (Nat.le_of_ble_eq_true rfl) (Nat.le_of_ble_eq_true rfl) (Nat.le_of_ble_eq_true rfl) (Nat.le_of_ble_eq_true rfl) (by exact (Nat.le_of_ble_eq_true rfl)) rfl (List.forall_mem_cons.mpr ⟨rfl, (List.forall_mem_cons.mpr ⟨rfl, fun _ h => nomatch h⟩)⟩) rfl dX8_doubts_2 aw_kt (aw_kq ?_)
  refine r_if_eq (pc := 5) (tgt := 17) dX8_doubts_5 (by decide) (fun h => absurd (bi_eq.mp h) (by rw [decide_eq_true (show (0 ≤ nI a ∧ nI a ≤ sc 6 - 1) from by rw [hM.2.2.2.2.1]; exact inV_of ha hM.2.2.2.2.2.1)]; decide)) (fun h5 => ?_)
  refine r_aload_n (pc := 8) dX8_doubts_8 rfl rfl ?_
  refine mg_35 (pc := 9) hP rfl dX8_doubts_9 ?_
  refine r_iload_n (pc := 12) dX8_doubts_12 rfl rfl ?_
  refine mln_11 (pc := 13) (a) hP ⟨rfl, ha20⟩ dX8_doubts_13 ?_
  refine r_goto (pc := 14) (tgt := 18) dX8_doubts_14 (by decide) ?_
  refine r_iret (pc := 18) rfl rfl dX8_doubts_18 ?_
  exact ⟨_, _, _, rfl, rfl, by rw [decide_eq_false (fun z => z (show (0 ≤ nI a ∧ nI a ≤ sc 6 - 1) from by rw [hM.2.2.2.2.1]; exact inV_of ha hM.2.2.2.2.2.1))]; rfl, rfl, rfl⟩

set_option maxRecDepth 100000 in
set_option maxHeartbeats 4000000 in
theorem cn_loop {G : aw_G} {P T : List va_E} {sc : Nat → Int32} {ar : Nat → Nat → Int32} (hP : P.length = 12) (n r : Nat) (h6 : sc 6 = nI n) (hn : n ≤ 20) : ∀ (m k c : Nat), k + m = n → c + cntU (fun k => decide (ar 7 k = 1)) k m = r → AW G fX8_counted 0 0 (mw P sc ar T) 9 [some (.ref 12), some (.int (nI c)), some (.int (nI k))] [] (qx (.inl (some (.int (nI r)))) (mw P sc ar T)) := by
  intro m
  induction m with
  | zero =>
    intro k c hk hc
    refine r_iload_n (pc := 9) dX8_counted_9 rfl rfl ?_
    refine r_aload_n (pc := 10) dX8_counted_10 rfl rfl ?_
    refine mg_165 (pc := 11) hP rfl dX8_counted_11 ?_
    refine r_icmp_ge (pc := 14) (tgt := 41) dX8_counted_14 (by decide) (fun h14 => ?_) (fun h => absurd (by rw [h6, show k = n by omega]; exact Int32.le_refl _) h)
    refine r_iload_n (pc := 41) dX8_counted_41 rfl rfl ?_
    refine r_iret (pc := 42) rfl rfl dX8_counted_42 ?_
    have h9 : c = r := hc
    subst h9
    exact ⟨rfl, rfl⟩
  | succ m ih =>
    intro k c hk hc
    refine r_iload_n (pc := 9) dX8_counted_9 rfl rfl ?_
    refine r_aload_n (pc := 10) dX8_counted_10 rfl rfl ?_
    refine mg_165 (pc := 11) hP rfl dX8_counted_11 ?_
    refine r_icmp_ge (pc := 14) (tgt := 41) dX8_counted_14 (by decide) (fun h => absurd h (by rw [h6]; exact nI_ge9 (by omega) (by omega))) (fun h14 => ?_)
    refine r_iload_n (pc := 17) dX8_counted_17 rfl rfl ?_
    refine r_aload_n (pc := 18) dX8_counted_18 rfl rfl ?_
    refine mg_22 (pc := 19) hP rfl dX8_counted_19 ?_
    refine r_iload_n (pc := 22) dX8_counted_22 rfl rfl ?_
    refine mln_7 (pc := 23) (k) hP ⟨rfl, by omega⟩ dX8_counted_23 ?_
    refine r_iconst (pc := 24) (v := 1) dX8_counted_24 (by decide) ?_
    refine r_icmp_ne (pc := 25) (tgt := 32) dX8_counted_25 (by decide) (fun h25 => ?_) (fun h25 => ?_)
    · refine r_iconst (pc := 32) (v := 0) dX8_counted_32 (by decide) ?_
      refine r_iadd (pc := 33) dX8_counted_33 ?_
      refine r_istore_n (pc := 34) dX8_counted_34 rfl (Nat.le_of_ble_eq_true rfl) rfl ?_
      refine r_iincK (pc := 35) (k9 := 1) dX8_counted_35 (by decide) rfl (Nat.le_of_ble_eq_true rfl) rfl ?_
      refine r_goto (pc := 38) (tgt := 9) dX8_counted_38 (by decide) ?_
      have hl : decide (ar 7 k = 1) = false := decide_eq_false h25
      rw [nI_1]
      rw [show nI c + 0 = nI c from nI_add c 0]
      exact ih (k + 1) (c ) (by omega) (by rw [← hc, cntU, hl]; simp <;> omega)
    · refine r_iconst (pc := 28) (v := 1) dX8_counted_28 (by decide) ?_
      refine r_goto (pc := 29) (tgt := 33) dX8_counted_29 (by decide) ?_
      refine r_iadd (pc := 33) dX8_counted_33 ?_
      refine r_istore_n (pc := 34) dX8_counted_34 rfl (Nat.le_of_ble_eq_true rfl) rfl ?_
      refine r_iincK (pc := 35) (k9 := 1) dX8_counted_35 (by decide) rfl (Nat.le_of_ble_eq_true rfl) rfl ?_
      refine r_goto (pc := 38) (tgt := 9) dX8_counted_38 (by decide) ?_
      have hl : decide (ar 7 k = 1) = true := decide_eq_true h25
      rw [nI_1]
      rw [nI_1]
      exact ih (k + 1) (c + 1) (by omega) (by rw [← hc, cntU, hl]; simp <;> omega)
set_option maxRecDepth 100000 in
set_option maxHeartbeats 4000000 in
theorem am_counted {G : aw_G} {P T : List va_E} {sc : Nat → Int32} {ar : Nat → Nat → Int32} (hP : P.length = 12) {tn vn an : Nat} {R : Nat → List Int32} {vv : Nat → Nat} (hM : MI tn vn an R vv sc ar) : AM G fX8_counted [.ref 12] (mw P sc ar T) (qx (.inl (some (.int (nI (cntU (fun k => decide (ar 7 k = 1)) 0 an))))) (mw P (upd sc 12 0) ar T)) := by
  refine AM_of (by decide) rfl rfl (Nat.le_of_ble_eq_true rfl) ?_
  show AW G fX8_counted 0 0 (mw P sc ar T) 0 [some (.ref 12), none, none] [] _
  refine r_aload_n (pc := 0) dX8_counted_0 rfl rfl ?_
  refine r_iconst (pc := 1) (v := 0) dX8_counted_1 (by decide) ?_
  refine mp_66 (pc := 2) hP rfl dX8_counted_2 ?_
  refine r_iconst (pc := 5) (v := 0) dX8_counted_5 (by decide) ?_
  refine r_istore_n (pc := 6) dX8_counted_6 rfl (Nat.le_of_ble_eq_true rfl) rfl ?_
  refine r_iconst (pc := 7) (v := 0) dX8_counted_7 (by decide) ?_
  refine r_istore_n (pc := 8) dX8_counted_8 rfl (Nat.le_of_ble_eq_true rfl) rfl ?_
  exact cn_loop hP an _ ((upd_n _ _ (by decide)).trans hM.2.2.2.2.1) hM.2.2.2.2.2.1 an 0 0 (Nat.zero_add _) (Nat.zero_add _)

set_option maxRecDepth 100000 in
set_option maxHeartbeats 4000000 in
theorem am_begin {G : aw_G} {P T : List va_E} {sc : Nat → Int32} {ar : Nat → Nat → Int32} (hP : P.length = 12) {tn vn an : Nat} {R : Nat → List Int32} {vv : Nat → Nat} (hM : MI tn vn an R vv sc ar) : AM G fX8_begin [.ref 12] (mw P sc ar T) (qe P T (fun v sc2 ar2 => ((vn = 0 ∨ an = 20) ∧ sc2 = upd sc 12 1 ∧ ar2 = ar) ∨ (¬ (vn = 0 ∨ an = 20) ∧ sc2 = upd (upd sc 12 0) 6 (nI (an + 1)) ∧ ar2 = va_up ar 8 (upd (ar 8) an (nI (vn - 1))) ∧ v = nI an))) := by
  refine AM_of (by decide) rfl rfl (Nat.le_of_ble_eq_true rfl) ?_
  show AW G fX8_begin 0 0 (mw P sc ar T) 0 [some (.ref 12)] [] _
  refine r_aload_n (pc := 0) dX8_begin_0 rfl rfl ?_
  refine r_aload_n (pc := 1) dX8_begin_1 rfl rfl ?_
  refine mg_162 (pc := 2) hP rfl dX8_begin_2 ?_
  refine r_if_eq (pc := 5) (tgt := 17) dX8_begin_5 (by decide) (fun h5 => ?_) (fun h5 => ?_)
  · refine r_iconst (pc := 17) (v := 1) dX8_begin_17 (by decide) ?_
    refine r_goto (pc := 18) (tgt := 22) dX8_begin_18 (by decide) ?_
    refine mp_66 (pc := 22) hP rfl dX8_begin_22 ?_
    refine r_aload_n (pc := 25) dX8_begin_25 rfl rfl ?_
    refine mgv_66 (pc := 26) (x := 1) hP rfl rfl dX8_begin_26 ?_
    refine r_if_le (pc := 29) (tgt := 34) dX8_begin_29 (by decide) (fun h => absurd h (by decide)) (fun _ => ?_)
    refine r_iconst (pc := 32) (v := 0) dX8_begin_32 (by decide) ?_
    refine r_iret (pc := 33) rfl rfl dX8_begin_33 ?_
    have h9 : vn = 0 := (nI_eq (b := 0) (by have := hM.2.2.2.1; omega) (by decide)).mp (hM.2.2.1.symm.trans h5)
    exact ⟨0, _, _, rfl, rfl, Or.inl ⟨Or.inl h9, rfl, rfl⟩⟩
  · refine r_aload_n (pc := 8) dX8_begin_8 rfl rfl ?_
    refine mg_165 (pc := 9) hP rfl dX8_begin_9 ?_
    refine r_bipush (pc := 12) (v := 20) dX8_begin_12 (by decide) ?_
    refine r_icmp_ne (pc := 14) (tgt := 21) dX8_begin_14 (by decide) (fun h14 => ?_) (fun h14 => ?_)
    · refine r_iconst (pc := 21) (v := 0) dX8_begin_21 (by decide) ?_
      refine mp_66 (pc := 22) hP rfl dX8_begin_22 ?_
      refine r_aload_n (pc := 25) dX8_begin_25 rfl rfl ?_
      refine mgv_66 (pc := 26) (x := 0) hP rfl rfl dX8_begin_26 ?_
      refine r_if_le (pc := 29) (tgt := 34) dX8_begin_29 (by decide) (fun _ => ?_) (fun h => absurd h (by decide))
      have hvn0 : vn ≠ 0 := fun z => h5 (by rw [hM.2.2.1, z]; rfl)
      have han20 : an ≠ 20 := fun z => h14 (by rw [hM.2.2.2.2.1, z]; rfl)
      have hlt : an < 20 := by have := hM.2.2.2.2.2.1; omega
      refine r_aload_n (pc := 34) dX8_begin_34 rfl rfl ?_
      refine mg_25 (pc := 35) hP rfl dX8_begin_35 ?_
      refine r_aload_n (pc := 38) dX8_begin_38 rfl rfl ?_
      refine mg_165 (pc := 39) hP rfl dX8_begin_39 ?_
      refine r_aload_n (pc := 42) dX8_begin_42 rfl rfl ?_
      refine mg_162 (pc := 43) hP rfl dX8_begin_43 ?_
      refine r_iconst (pc := 46) (v := 1) dX8_begin_46 (by decide) ?_
      refine r_isub (pc := 47) dX8_begin_47 ?_
      refine msn_8 (pc := 48) (an) hP ⟨hM.2.2.2.2.1, hlt⟩ dX8_begin_48 ?_
      refine r_aload_n (pc := 49) dX8_begin_49 rfl rfl ?_
      refine r_dup (pc := 50) dX8_begin_50 rfl ?_
      refine mg_165 (pc := 51) hP rfl dX8_begin_51 ?_
      refine r_iconst (pc := 54) (v := 1) dX8_begin_54 (by decide) ?_
      refine r_iadd (pc := 55) dX8_begin_55 ?_
      refine mp_165 (pc := 56) hP rfl dX8_begin_56 ?_
      refine r_aload_n (pc := 59) dX8_begin_59 rfl rfl ?_
      refine mg_165 (pc := 60) hP rfl dX8_begin_60 ?_
      refine r_iconst (pc := 63) (v := 1) dX8_begin_63 (by decide) ?_
      refine r_isub (pc := 64) dX8_begin_64 ?_
      refine r_iret (pc := 65) rfl rfl dX8_begin_65 ?_
      have e1 : sc 6 + 1 = nI (an + 1) := by rw [hM.2.2.2.2.1]; exact nI_1 an
      have e2 : sc 5 - 1 = nI (vn - 1) := by rw [hM.2.2.1]; exact pk_sub (b := 1) (by omega)
      refine ⟨_, _, _, rfl, rfl, Or.inr ⟨by omega, by rw [← e1]; rfl, by rw [← e2]; rfl, ?_⟩⟩
      show sc 6 + 1 - 1 = nI an
      rw [e1]
      exact pk_sub (b := 1) (by omega)
    · refine r_iconst (pc := 17) (v := 1) dX8_begin_17 (by decide) ?_
      refine r_goto (pc := 18) (tgt := 22) dX8_begin_18 (by decide) ?_
      refine mp_66 (pc := 22) hP rfl dX8_begin_22 ?_
      refine r_aload_n (pc := 25) dX8_begin_25 rfl rfl ?_
      refine mgv_66 (pc := 26) (x := 1) hP rfl rfl dX8_begin_26 ?_
      refine r_if_le (pc := 29) (tgt := 34) dX8_begin_29 (by decide) (fun h => absurd h (by decide)) (fun _ => ?_)
      refine r_iconst (pc := 32) (v := 0) dX8_begin_32 (by decide) ?_
      refine r_iret (pc := 33) rfl rfl dX8_begin_33 ?_
      have h9 : an = 20 := (nI_eq (b := 20) (by have := hM.2.2.2.2.2.1; omega) (by decide)).mp (hM.2.2.2.2.1.symm.trans h14)
      exact ⟨0, _, _, rfl, rfl, Or.inl ⟨Or.inr h9, rfl, rfl⟩⟩

set_option maxRecDepth 100000 in
set_option maxHeartbeats 4000000 in
theorem am_put {G : aw_G} {P T : List va_E} {sc : Nat → Int32} {ar : Nat → Nat → Int32} (hP : P.length = 12) {tn vn an : Nat} {R : Nat → List Int32} {vv : Nat → Nat} (hM : MI tn vn an R vv sc ar) (a : Nat) (ha : a < an) (f : Nat) (hf : f < 6) (x : Int32) : AM G fX8_put [.ref 12, .int (nI a), .int (nI f), .int x] (mw P sc ar T) (qe P T (fun v sc2 ar2 => (¬ (ar 7 a = 0 ∧ canP ar R (vv a) f = true) ∧ sc2 = upd sc 12 2 ∧ ar2 = ar) ∨ ((ar 7 a = 0 ∧ canP ar R (vv a) f = true) ∧ ¬ rightP (ar 4 (6 * (vv a + 1) + f)) x = true ∧ sc2 = upd sc 12 3 ∧ ar2 = ar) ∨ ((ar 7 a = 0 ∧ canP ar R (vv a) f = true) ∧ rightP (ar 4 (6 * (vv a + 1) + f)) x = true ∧ sc2 = upd sc 12 0 ∧ ar2 = (va_up (va_up ar 9 (upd (ar 9) (6 * a + f) x)) 10 (upd (ar 10) (6 * a + f) 1)) ∧ v = nI (cntU (lackF (va_up (va_up ar 9 (upd (ar 9) (6 * a + f) x)) 10 (upd (ar 10) (6 * a + f) 1)) R (vv a) a) 0 6)))) := by
  refine AM_of (by decide) rfl rfl (Nat.le_of_ble_eq_true rfl) ?_
  show AW G fX8_put 0 0 (mw P sc ar T) 0 [some (.ref 12), some (.int (nI a)), some (.int (nI f)), some (.int x)] [] _
  have hv := (hM.2.2.2.2.2.2.2 a ha).1
  have hvl : vv a < 10 := by have := (hM.2.2.2.2.2.2.2 a ha).2; have := hM.2.2.2.1; omega
  have ha20 : a < 20 := by have := hM.2.2.2.2.2.1; omega
  have hR := hM.2.2.2.2.2.2.1
  refine r_aload_n (pc := 0) dX8_put_0 rfl rfl ?_
  refine r_aload_n (pc := 1) dX8_put_1 rfl rfl ?_
  refine r_iload_n (pc := 2) dX8_put_2 rfl rfl ?_
  refine r_iload_n (pc := 3) dX8_put_3 rfl rfl ?_
  refine s_X8_202 (pc := 4) (kc' := 0) (ks' := 0) rfl rfl (am_areOne hP _ _) (mw_o hP) (Nat.le_of_ble_eq_true rfl) (Nat.le_of_ble_eq_true rfl) (Nat.le_of_ble_eq_true rfl) (Nat.le_of_ble_eq_true rfl) (by exact (Nat.le_of_ble_eq_true rfl)) rfl (List.forall_mem_cons.mpr ⟨rfl, (List.forall_mem_cons.mpr ⟨rfl, (List.forall_mem_cons.mpr ⟨rfl, fun _ h => nomatch h⟩)⟩)⟩) rfl dX8_put_4 aw_kt (aw_kq ?_)
  refine r_if_ne (pc := 7) (tgt := 14) dX8_put_7 (by decide) (fun h7 => ?_) (fun h => absurd (bi_eq.mp h) (by rw [decide_eq_true (show (0 ≤ nI a ∧ nI a ≤ sc 6 - 1) ∧ (0 ≤ nI f ∧ nI f ≤ 5) from ⟨by rw [hM.2.2.2.2.1]; exact inV_of ha hM.2.2.2.2.2.1, inF_of hf⟩)]; decide))
  refine r_aload_n (pc := 14) dX8_put_14 rfl rfl ?_
  refine mg_22 (pc := 15) hP rfl dX8_put_15 ?_
  refine r_iload_n (pc := 18) dX8_put_18 rfl rfl ?_
  refine mln_7 (pc := 19) (a) hP ⟨rfl, ha20⟩ dX8_put_19 ?_
  refine r_if_ne (pc := 20) (tgt := 32) dX8_put_20 (by decide) (fun h20 => ?_) (fun h20 => ?_)
  · refine r_iconst (pc := 32) (v := 2) dX8_put_32 (by decide) ?_
    refine r_goto (pc := 33) (tgt := 51) dX8_put_33 (by decide) ?_
    refine mp_66 (pc := 51) hP rfl dX8_put_51 ?_
    refine r_aload_n (pc := 54) dX8_put_54 rfl rfl ?_
    refine mgv_66 (pc := 55) (x := 2) hP rfl rfl dX8_put_55 ?_
    refine r_if_le (pc := 58) (tgt := 63) dX8_put_58 (by decide) (fun h => absurd h (by decide)) (fun _ => ?_)
    refine r_iconst (pc := 61) (v := 0) dX8_put_61 (by decide) ?_
    refine r_iret (pc := 62) rfl rfl dX8_put_62 ?_
    exact ⟨0, _, _, rfl, rfl, Or.inl ⟨fun z => h20 z.1, rfl, rfl⟩⟩
  · refine r_aload_n (pc := 23) dX8_put_23 rfl rfl ?_
    refine r_iload_n (pc := 24) dX8_put_24 rfl rfl ?_
    refine r_iload_n (pc := 25) dX8_put_25 rfl rfl ?_
    refine s_X8_196 (pc := 26) (kc' := 0) (ks' := 0) rfl rfl (am_canPut hP hM a ha f hf) (mw_o hP) (Nat.le_of_ble_eq_true rfl) (Nat.le_of_ble_eq_true rfl) (Nat.le_of_ble_eq_true rfl) (Nat.le_of_ble_eq_true rfl) (by exact (Nat.le_of_ble_eq_true rfl)) rfl (List.forall_mem_cons.mpr ⟨rfl, (List.forall_mem_cons.mpr ⟨rfl, (List.forall_mem_cons.mpr ⟨rfl, fun _ h => nomatch h⟩)⟩)⟩) rfl dX8_put_26 aw_kt (aw_kq ?_)
    refine r_if_ne (pc := 29) (tgt := 36) dX8_put_29 (by decide) (fun h29 => ?_) (fun h29 => ?_)
    · refine r_aload_n (pc := 36) dX8_put_36 rfl rfl ?_
      refine r_iload_n (pc := 37) dX8_put_37 rfl rfl ?_
      refine r_iload_n (pc := 38) dX8_put_38 rfl rfl ?_
      refine r_iload_n (pc := 39) dX8_put_39 rfl rfl ?_
      refine s_X8_205 (pc := 40) (kc' := 0) (ks' := 0) rfl rfl (am_isRight hP hM a ha f hf x) (mw_o hP) (Nat.le_of_ble_eq_true rfl) (Nat.le_of_ble_eq_true rfl) (Nat.le_of_ble_eq_true rfl) (Nat.le_of_ble_eq_true rfl) (by exact (Nat.le_of_ble_eq_true rfl)) rfl (List.forall_mem_cons.mpr ⟨rfl, (List.forall_mem_cons.mpr ⟨rfl, (List.forall_mem_cons.mpr ⟨rfl, (List.forall_mem_cons.mpr ⟨rfl, fun _ h => nomatch h⟩)⟩)⟩)⟩) rfl dX8_put_40 aw_kt (aw_kq ?_)
      refine r_if_ne (pc := 43) (tgt := 50) dX8_put_43 (by decide) (fun h43 => ?_) (fun h43 => ?_)
      · refine r_iconst (pc := 50) (v := 0) dX8_put_50 (by decide) ?_
        refine mp_66 (pc := 51) hP rfl dX8_put_51 ?_
        refine r_aload_n (pc := 54) dX8_put_54 rfl rfl ?_
        refine mgv_66 (pc := 55) (x := 0) hP rfl rfl dX8_put_55 ?_
        refine r_if_le (pc := 58) (tgt := 63) dX8_put_58 (by decide) (fun _ => ?_) (fun h => absurd h (by decide))
        refine r_aload_n (pc := 63) dX8_put_63 rfl rfl ?_
        refine mg_28 (pc := 64) hP rfl dX8_put_64 ?_
        refine r_bipush (pc := 67) (v := 6) dX8_put_67 (by decide) ?_
        refine r_iload_n (pc := 69) dX8_put_69 rfl rfl ?_
        refine r_imul (pc := 70) dX8_put_70 ?_
        refine r_iload_n (pc := 71) dX8_put_71 rfl rfl ?_
        refine r_iadd (pc := 72) dX8_put_72 ?_
        refine r_iload_n (pc := 73) dX8_put_73 rfl rfl ?_
        refine msn_9 (pc := 74) (6 * a + f) hP ⟨by rw [n6, nI_add], by omega⟩ dX8_put_74 ?_
        refine r_aload_n (pc := 75) dX8_put_75 rfl rfl ?_
        refine mg_31 (pc := 76) hP rfl dX8_put_76 ?_
        refine r_bipush (pc := 79) (v := 6) dX8_put_79 (by decide) ?_
        refine r_iload_n (pc := 81) dX8_put_81 rfl rfl ?_
        refine r_imul (pc := 82) dX8_put_82 ?_
        refine r_iload_n (pc := 83) dX8_put_83 rfl rfl ?_
        refine r_iadd (pc := 84) dX8_put_84 ?_
        refine r_iconst (pc := 85) (v := 1) dX8_put_85 (by decide) ?_
        refine msn_10 (pc := 86) (6 * a + f) hP ⟨by rw [n6, nI_add], by omega⟩ dX8_put_86 ?_
        rw [show vp_nar .boolean 1 = (1 : Int32) from rfl]
        have hM2 := MI_ag hM (ag_a (ag_a (ag_s (ag_rf (Ks := [12]) (Ka := [9, 10]) (sc := sc) (ar := ar)) 12 0 (by decide)) 9 (upd (ar 9) (6 * a + f) x) (by decide)) 10 (upd (ar 10) (6 * a + f) 1) (by decide)) (by decide) (by decide)
        refine r_aload_n (pc := 87) dX8_put_87 rfl rfl ?_
        refine r_iload_n (pc := 88) dX8_put_88 rfl rfl ?_
        refine s_X8_208 (pc := 89) (kc' := 0) (ks' := 0) rfl rfl (am_lacking hP hM2 a ha) (mw_o hP) (Nat.le_of_ble_eq_true rfl) (Nat.le_of_ble_eq_true rfl) (Nat.le_of_ble_eq_true rfl) (Nat.le_of_ble_eq_true rfl) (by exact (Nat.le_of_ble_eq_true rfl)) rfl (List.forall_mem_cons.mpr ⟨rfl, (List.forall_mem_cons.mpr ⟨rfl, fun _ h => nomatch h⟩)⟩) rfl dX8_put_89 aw_kt (aw_kq ?_)
        refine r_iret (pc := 92) rfl rfl dX8_put_92 ?_
        exact ⟨_, _, _, rfl, rfl, Or.inr (Or.inr ⟨⟨h20, bi_ne.mp h29⟩, bi_ne.mp h43, rfl, rfl, rfl⟩)⟩
      · refine r_iconst (pc := 46) (v := 3) dX8_put_46 (by decide) ?_
        refine r_goto (pc := 47) (tgt := 51) dX8_put_47 (by decide) ?_
        refine mp_66 (pc := 51) hP rfl dX8_put_51 ?_
        refine r_aload_n (pc := 54) dX8_put_54 rfl rfl ?_
        refine mgv_66 (pc := 55) (x := 3) hP rfl rfl dX8_put_55 ?_
        refine r_if_le (pc := 58) (tgt := 63) dX8_put_58 (by decide) (fun h => absurd h (by decide)) (fun _ => ?_)
        refine r_iconst (pc := 61) (v := 0) dX8_put_61 (by decide) ?_
        refine r_iret (pc := 62) rfl rfl dX8_put_62 ?_
        exact ⟨0, _, _, rfl, rfl, Or.inr (Or.inl ⟨⟨h20, bi_ne.mp h29⟩, fun z => absurd z (by rw [bi_eq.mp h43]; decide), rfl, rfl⟩)⟩
    · refine r_iconst (pc := 32) (v := 2) dX8_put_32 (by decide) ?_
      refine r_goto (pc := 33) (tgt := 51) dX8_put_33 (by decide) ?_
      refine mp_66 (pc := 51) hP rfl dX8_put_51 ?_
      refine r_aload_n (pc := 54) dX8_put_54 rfl rfl ?_
      refine mgv_66 (pc := 55) (x := 2) hP rfl rfl dX8_put_55 ?_
      refine r_if_le (pc := 58) (tgt := 63) dX8_put_58 (by decide) (fun h => absurd h (by decide)) (fun _ => ?_)
      refine r_iconst (pc := 61) (v := 0) dX8_put_61 (by decide) ?_
      refine r_iret (pc := 62) rfl rfl dX8_put_62 ?_
      exact ⟨0, _, _, rfl, rfl, Or.inl ⟨fun z => absurd z.2 (by rw [bi_eq.mp h29]; decide), rfl, rfl⟩⟩

set_option maxRecDepth 100000 in
set_option maxHeartbeats 4000000 in
theorem am_value {G : aw_G} {P T : List va_E} {sc : Nat → Int32} {ar : Nat → Nat → Int32} (hP : P.length = 12) {tn vn an : Nat} {R : Nat → List Int32} {vv : Nat → Nat} (hM : MI tn vn an R vv sc ar) (a : Nat) (ha : a < an) (f : Nat) (hf : f < 6) : AM G fX8_value [.ref 12, .int (nI a), .int (nI f)] (mw P sc ar T) (qe P T (fun v sc2 ar2 => ar2 = ar ∧ ((ar 10 (6 * a + f) = 0 ∧ sc2 = upd sc 12 2) ∨ (ar 10 (6 * a + f) ≠ 0 ∧ sc2 = upd sc 12 0 ∧ v = ar 9 (6 * a + f))))) := by
  refine AM_of (by decide) rfl rfl (Nat.le_of_ble_eq_true rfl) ?_
  show AW G fX8_value 0 0 (mw P sc ar T) 0 [some (.ref 12), some (.int (nI a)), some (.int (nI f))] [] _
  have hv := (hM.2.2.2.2.2.2.2 a ha).1
  have hvl : vv a < 10 := by have := (hM.2.2.2.2.2.2.2 a ha).2; have := hM.2.2.2.1; omega
  have ha20 : a < 20 := by have := hM.2.2.2.2.2.1; omega
  have hR := hM.2.2.2.2.2.2.1
  refine r_aload_n (pc := 0) dX8_value_0 rfl rfl ?_
  refine r_aload_n (pc := 1) dX8_value_1 rfl rfl ?_
  refine r_iload_n (pc := 2) dX8_value_2 rfl rfl ?_
  refine r_iload_n (pc := 3) dX8_value_3 rfl rfl ?_
  refine s_X8_202 (pc := 4) (kc' := 0) (ks' := 0) rfl rfl (am_areOne hP _ _) (mw_o hP) (Nat.le_of_ble_eq_true rfl) (Nat.le_of_ble_eq_true rfl) (Nat.le_of_ble_eq_true rfl) (Nat.le_of_ble_eq_true rfl) (by exact (Nat.le_of_ble_eq_true rfl)) rfl (List.forall_mem_cons.mpr ⟨rfl, (List.forall_mem_cons.mpr ⟨rfl, (List.forall_mem_cons.mpr ⟨rfl, fun _ h => nomatch h⟩)⟩)⟩) rfl dX8_value_4 aw_kt (aw_kq ?_)
  refine r_if_ne (pc := 7) (tgt := 14) dX8_value_7 (by decide) (fun h7 => ?_) (fun h => absurd (bi_eq.mp h) (by rw [decide_eq_true (show (0 ≤ nI a ∧ nI a ≤ sc 6 - 1) ∧ (0 ≤ nI f ∧ nI f ≤ 5) from ⟨by rw [hM.2.2.2.2.1]; exact inV_of ha hM.2.2.2.2.2.1, inF_of hf⟩)]; decide))
  refine r_aload_n (pc := 14) dX8_value_14 rfl rfl ?_
  refine mg_31 (pc := 15) hP rfl dX8_value_15 ?_
  refine r_bipush (pc := 18) (v := 6) dX8_value_18 (by decide) ?_
  refine r_iload_n (pc := 20) dX8_value_20 rfl rfl ?_
  refine r_imul (pc := 21) dX8_value_21 ?_
  refine r_iload_n (pc := 22) dX8_value_22 rfl rfl ?_
  refine r_iadd (pc := 23) dX8_value_23 ?_
  refine mln_10 (pc := 24) (6 * a + f) hP ⟨by rw [n6, nI_add], by omega⟩ dX8_value_24 ?_
  refine r_if_ne (pc := 25) (tgt := 32) dX8_value_25 (by decide) (fun h25 => ?_) (fun h25 => ?_)
  · refine r_iconst (pc := 32) (v := 0) dX8_value_32 (by decide) ?_
    refine mp_66 (pc := 33) hP rfl dX8_value_33 ?_
    refine r_aload_n (pc := 36) dX8_value_36 rfl rfl ?_
    refine mgv_66 (pc := 37) (x := 0) hP rfl rfl dX8_value_37 ?_
    refine r_if_ne (pc := 40) (tgt := 57) dX8_value_40 (by decide) (fun h => absurd h (by decide)) (fun _ => ?_)
    refine r_aload_n (pc := 43) dX8_value_43 rfl rfl ?_
    refine mg_28 (pc := 44) hP rfl dX8_value_44 ?_
    refine r_bipush (pc := 47) (v := 6) dX8_value_47 (by decide) ?_
    refine r_iload_n (pc := 49) dX8_value_49 rfl rfl ?_
    refine r_imul (pc := 50) dX8_value_50 ?_
    refine r_iload_n (pc := 51) dX8_value_51 rfl rfl ?_
    refine r_iadd (pc := 52) dX8_value_52 ?_
    refine mln_9 (pc := 53) (6 * a + f) hP ⟨by rw [n6, nI_add], by omega⟩ dX8_value_53 ?_
    refine r_goto (pc := 54) (tgt := 58) dX8_value_54 (by decide) ?_
    refine r_iret (pc := 58) rfl rfl dX8_value_58 ?_
    exact ⟨_, _, _, rfl, rfl, rfl, Or.inr ⟨h25, rfl, rfl⟩⟩
  · refine r_iconst (pc := 28) (v := 2) dX8_value_28 (by decide) ?_
    refine r_goto (pc := 29) (tgt := 33) dX8_value_29 (by decide) ?_
    refine mp_66 (pc := 33) hP rfl dX8_value_33 ?_
    refine r_aload_n (pc := 36) dX8_value_36 rfl rfl ?_
    refine mgv_66 (pc := 37) (x := 2) hP rfl rfl dX8_value_37 ?_
    refine r_if_ne (pc := 40) (tgt := 57) dX8_value_40 (by decide) (fun _ => ?_) (fun h => absurd h (by decide))
    refine r_iconst (pc := 57) (v := 0) dX8_value_57 (by decide) ?_
    refine r_iret (pc := 58) rfl rfl dX8_value_58 ?_
    exact ⟨0, _, _, rfl, rfl, rfl, Or.inl ⟨h25, rfl⟩⟩

set_option maxRecDepth 100000 in
set_option maxHeartbeats 4000000 in
theorem am_doubt {G : aw_G} {P T : List va_E} {sc : Nat → Int32} {ar : Nat → Nat → Int32} (hP : P.length = 12) {tn vn an : Nat} {R : Nat → List Int32} {vv : Nat → Nat} (hM : MI tn vn an R vv sc ar) (a : Nat) (ha : a < an) (f : Nat) (hf : f < 6) : AM G fX8_doubt [.ref 12, .int (nI a), .int (nI f)] (mw P sc ar T) (qe P T (fun v sc2 ar2 => (¬ ((ar 7 a = 1 ∨ ar 7 a = 3) ∧ ar 4 (6 * (vv a + 1) + f) ≠ 0) ∧ sc2 = upd sc 12 2 ∧ ar2 = ar) ∨ (((ar 7 a = 1 ∨ ar 7 a = 3) ∧ ar 4 (6 * (vv a + 1) + f) ≠ 0) ∧ sc2 = upd sc 12 0 ∧ ar2 = va_up (va_up ar 11 (upd (ar 11) a (ar 11 a ||| b1 f))) 7 (upd (ar 7) a 3) ∧ v = bi (bitI (ar 11 a) f)))) := by
  refine AM_of (by decide) rfl rfl (Nat.le_of_ble_eq_true rfl) ?_
  show AW G fX8_doubt 0 0 (mw P sc ar T) 0 [some (.ref 12), some (.int (nI a)), some (.int (nI f)), none] [] _
  have hv := (hM.2.2.2.2.2.2.2 a ha).1
  have hvl : vv a < 10 := by have := (hM.2.2.2.2.2.2.2 a ha).2; have := hM.2.2.2.1; omega
  have ha20 : a < 20 := by have := hM.2.2.2.2.2.1; omega
  have hR := hM.2.2.2.2.2.2.1
  refine r_aload_n (pc := 0) dX8_doubt_0 rfl rfl ?_
  refine r_aload_n (pc := 1) dX8_doubt_1 rfl rfl ?_
  refine r_iload_n (pc := 2) dX8_doubt_2 rfl rfl ?_
  refine r_iload_n (pc := 3) dX8_doubt_3 rfl rfl ?_
  refine s_X8_202 (pc := 4) (kc' := 0) (ks' := 0) rfl rfl (am_areOne hP _ _) (mw_o hP) (Nat.le_of_ble_eq_true rfl) (Nat.le_of_ble_eq_true rfl) (Nat.le_of_ble_eq_true rfl) (Nat.le_of_ble_eq_true rfl) (by exact (Nat.le_of_ble_eq_true rfl)) rfl (List.forall_mem_cons.mpr ⟨rfl, (List.forall_mem_cons.mpr ⟨rfl, (List.forall_mem_cons.mpr ⟨rfl, fun _ h => nomatch h⟩)⟩)⟩) rfl dX8_doubt_4 aw_kt (aw_kq ?_)
  refine r_if_ne (pc := 7) (tgt := 14) dX8_doubt_7 (by decide) (fun h7 => ?_) (fun h => absurd (bi_eq.mp h) (by rw [decide_eq_true (show (0 ≤ nI a ∧ nI a ≤ sc 6 - 1) ∧ (0 ≤ nI f ∧ nI f ≤ 5) from ⟨by rw [hM.2.2.2.2.1]; exact inV_of ha hM.2.2.2.2.2.1, inF_of hf⟩)]; decide))
  refine r_aload_n (pc := 14) dX8_doubt_14 rfl rfl ?_
  refine mg_22 (pc := 15) hP rfl dX8_doubt_15 ?_
  refine r_iload_n (pc := 18) dX8_doubt_18 rfl rfl ?_
  refine mln_7 (pc := 19) (a) hP ⟨rfl, ha20⟩ dX8_doubt_19 ?_
  refine r_iconst (pc := 20) (v := 1) dX8_doubt_20 (by decide) ?_
  refine r_icmp_eq (pc := 21) (tgt := 34) dX8_doubt_21 (by decide) (fun h21 => ?_) (fun h21 => ?_)
  · refine r_aload_n (pc := 34) dX8_doubt_34 rfl rfl ?_
    refine r_aload_n (pc := 35) dX8_doubt_35 rfl rfl ?_
    refine mg_25 (pc := 36) hP rfl dX8_doubt_36 ?_
    refine r_iload_n (pc := 39) dX8_doubt_39 rfl rfl ?_
    refine mln_8 (pc := 40) (a) hP ⟨rfl, ha20⟩ dX8_doubt_40 ?_
    rw [hv]
    refine r_iload_n (pc := 41) dX8_doubt_41 rfl rfl ?_
    refine s_X8_155 (pc := 42) (kc' := 0) (ks' := 0) rfl rfl (am_typeAt hP (vv a) f hvl hf) (mw_o hP) (Nat.le_of_ble_eq_true rfl) (Nat.le_of_ble_eq_true rfl) (Nat.le_of_ble_eq_true rfl) (Nat.le_of_ble_eq_true rfl) (by exact (Nat.le_of_ble_eq_true rfl)) rfl (List.forall_mem_cons.mpr ⟨rfl, (List.forall_mem_cons.mpr ⟨rfl, (List.forall_mem_cons.mpr ⟨rfl, fun _ h => nomatch h⟩)⟩)⟩) rfl dX8_doubt_42 aw_kt (aw_kq ?_)
    refine r_if_ne (pc := 45) (tgt := 52) dX8_doubt_45 (by decide) (fun h45 => ?_) (fun h45 => ?_)
    · refine r_iconst (pc := 52) (v := 0) dX8_doubt_52 (by decide) ?_
      refine mp_66 (pc := 53) hP rfl dX8_doubt_53 ?_
      refine r_aload_n (pc := 56) dX8_doubt_56 rfl rfl ?_
      refine mgv_66 (pc := 57) (x := 0) hP rfl rfl dX8_doubt_57 ?_
      refine r_if_le (pc := 60) (tgt := 65) dX8_doubt_60 (by decide) (fun _ => ?_) (fun h => absurd h (by decide))
      refine r_aload_n (pc := 65) dX8_doubt_65 rfl rfl ?_
      refine mg_35 (pc := 66) hP rfl dX8_doubt_66 ?_
      refine r_iload_n (pc := 69) dX8_doubt_69 rfl rfl ?_
      refine mln_11 (pc := 70) (a) hP ⟨rfl, ha20⟩ dX8_doubt_70 ?_
      refine r_iload_n (pc := 71) dX8_doubt_71 rfl rfl ?_
      refine r_ishr (pc := 72) dX8_doubt_72 ?_
      refine r_iconst (pc := 73) (v := 1) dX8_doubt_73 (by decide) ?_
      refine r_iand (pc := 74) dX8_doubt_74 ?_
      refine r_iconst (pc := 75) (v := 1) dX8_doubt_75 (by decide) ?_
      refine r_icmp_ne (pc := 76) (tgt := 83) dX8_doubt_76 (by decide) (fun h76 => ?_) (fun h76 => ?_)
      · refine r_iconst (pc := 83) (v := 0) dX8_doubt_83 (by decide) ?_
        refine r_istore_n (pc := 84) dX8_doubt_84 rfl (Nat.le_of_ble_eq_true rfl) rfl ?_
        refine r_aload_n (pc := 85) dX8_doubt_85 rfl rfl ?_
        refine mg_35 (pc := 86) hP rfl dX8_doubt_86 ?_
        refine r_iload_n (pc := 89) dX8_doubt_89 rfl rfl ?_
        refine r_dup2 (pc := 90) dX8_doubt_90 rfl rfl ?_
        refine mln_11 (pc := 91) (a) hP ⟨rfl, ha20⟩ dX8_doubt_91 ?_
        refine r_iconst (pc := 92) (v := 1) dX8_doubt_92 (by decide) ?_
        refine r_iload_n (pc := 93) dX8_doubt_93 rfl rfl ?_
        refine r_ishl (pc := 94) dX8_doubt_94 ?_
        refine r_ior (pc := 95) dX8_doubt_95 ?_
        refine msn_11 (pc := 96) (a) hP ⟨rfl, ha20⟩ dX8_doubt_96 ?_
        refine r_aload_n (pc := 97) dX8_doubt_97 rfl rfl ?_
        refine mg_22 (pc := 98) hP rfl dX8_doubt_98 ?_
        refine r_iload_n (pc := 101) dX8_doubt_101 rfl rfl ?_
        refine r_iconst (pc := 102) (v := 3) dX8_doubt_102 (by decide) ?_
        refine msn_7 (pc := 103) (a) hP ⟨rfl, ha20⟩ dX8_doubt_103 ?_
        refine r_iload_n (pc := 104) dX8_doubt_104 rfl rfl ?_
        refine r_iret (pc := 105) rfl rfl dX8_doubt_105 ?_
        exact ⟨_, _, _, rfl, rfl, Or.inr ⟨⟨(Or.inl h21), h45⟩, rfl, rfl, by rw [show bitI (ar 11 a) f = false from decide_eq_false h76]; rfl⟩⟩
      · refine r_iconst (pc := 79) (v := 1) dX8_doubt_79 (by decide) ?_
        refine r_goto (pc := 80) (tgt := 84) dX8_doubt_80 (by decide) ?_
        refine r_istore_n (pc := 84) dX8_doubt_84 rfl (Nat.le_of_ble_eq_true rfl) rfl ?_
        refine r_aload_n (pc := 85) dX8_doubt_85 rfl rfl ?_
        refine mg_35 (pc := 86) hP rfl dX8_doubt_86 ?_
        refine r_iload_n (pc := 89) dX8_doubt_89 rfl rfl ?_
        refine r_dup2 (pc := 90) dX8_doubt_90 rfl rfl ?_
        refine mln_11 (pc := 91) (a) hP ⟨rfl, ha20⟩ dX8_doubt_91 ?_
        refine r_iconst (pc := 92) (v := 1) dX8_doubt_92 (by decide) ?_
        refine r_iload_n (pc := 93) dX8_doubt_93 rfl rfl ?_
        refine r_ishl (pc := 94) dX8_doubt_94 ?_
        refine r_ior (pc := 95) dX8_doubt_95 ?_
        refine msn_11 (pc := 96) (a) hP ⟨rfl, ha20⟩ dX8_doubt_96 ?_
        refine r_aload_n (pc := 97) dX8_doubt_97 rfl rfl ?_
        refine mg_22 (pc := 98) hP rfl dX8_doubt_98 ?_
        refine r_iload_n (pc := 101) dX8_doubt_101 rfl rfl ?_
        refine r_iconst (pc := 102) (v := 3) dX8_doubt_102 (by decide) ?_
        refine msn_7 (pc := 103) (a) hP ⟨rfl, ha20⟩ dX8_doubt_103 ?_
        refine r_iload_n (pc := 104) dX8_doubt_104 rfl rfl ?_
        refine r_iret (pc := 105) rfl rfl dX8_doubt_105 ?_
        exact ⟨_, _, _, rfl, rfl, Or.inr ⟨⟨(Or.inl h21), h45⟩, rfl, rfl, by rw [show bitI (ar 11 a) f = true from decide_eq_true h76]; rfl⟩⟩
    · refine r_iconst (pc := 48) (v := 2) dX8_doubt_48 (by decide) ?_
      refine r_goto (pc := 49) (tgt := 53) dX8_doubt_49 (by decide) ?_
      refine mp_66 (pc := 53) hP rfl dX8_doubt_53 ?_
      refine r_aload_n (pc := 56) dX8_doubt_56 rfl rfl ?_
      refine mgv_66 (pc := 57) (x := 2) hP rfl rfl dX8_doubt_57 ?_
      refine r_if_le (pc := 60) (tgt := 65) dX8_doubt_60 (by decide) (fun h => absurd h (by decide)) (fun _ => ?_)
      refine r_iconst (pc := 63) (v := 0) dX8_doubt_63 (by decide) ?_
      refine r_iret (pc := 64) rfl rfl dX8_doubt_64 ?_
      exact ⟨0, _, _, rfl, rfl, Or.inl ⟨fun z => z.2 h45, rfl, rfl⟩⟩
  · refine r_aload_n (pc := 24) dX8_doubt_24 rfl rfl ?_
    refine mg_22 (pc := 25) hP rfl dX8_doubt_25 ?_
    refine r_iload_n (pc := 28) dX8_doubt_28 rfl rfl ?_
    refine mln_7 (pc := 29) (a) hP ⟨rfl, ha20⟩ dX8_doubt_29 ?_
    refine r_iconst (pc := 30) (v := 3) dX8_doubt_30 (by decide) ?_
    refine r_icmp_ne (pc := 31) (tgt := 48) dX8_doubt_31 (by decide) (fun h31 => ?_) (fun h31 => ?_)
    · refine r_iconst (pc := 48) (v := 2) dX8_doubt_48 (by decide) ?_
      refine r_goto (pc := 49) (tgt := 53) dX8_doubt_49 (by decide) ?_
      refine mp_66 (pc := 53) hP rfl dX8_doubt_53 ?_
      refine r_aload_n (pc := 56) dX8_doubt_56 rfl rfl ?_
      refine mgv_66 (pc := 57) (x := 2) hP rfl rfl dX8_doubt_57 ?_
      refine r_if_le (pc := 60) (tgt := 65) dX8_doubt_60 (by decide) (fun h => absurd h (by decide)) (fun _ => ?_)
      refine r_iconst (pc := 63) (v := 0) dX8_doubt_63 (by decide) ?_
      refine r_iret (pc := 64) rfl rfl dX8_doubt_64 ?_
      exact ⟨0, _, _, rfl, rfl, Or.inl ⟨fun z => z.1.elim h21 h31, rfl, rfl⟩⟩
    · refine r_aload_n (pc := 34) dX8_doubt_34 rfl rfl ?_
      refine r_aload_n (pc := 35) dX8_doubt_35 rfl rfl ?_
      refine mg_25 (pc := 36) hP rfl dX8_doubt_36 ?_
      refine r_iload_n (pc := 39) dX8_doubt_39 rfl rfl ?_
      refine mln_8 (pc := 40) (a) hP ⟨rfl, ha20⟩ dX8_doubt_40 ?_
      rw [hv]
      refine r_iload_n (pc := 41) dX8_doubt_41 rfl rfl ?_
      refine s_X8_155 (pc := 42) (kc' := 0) (ks' := 0) rfl rfl (am_typeAt hP (vv a) f hvl hf) (mw_o hP) (Nat.le_of_ble_eq_true rfl) (Nat.le_of_ble_eq_true rfl) (Nat.le_of_ble_eq_true rfl) (Nat.le_of_ble_eq_true rfl) (by exact (Nat.le_of_ble_eq_true rfl)) rfl (List.forall_mem_cons.mpr ⟨rfl, (List.forall_mem_cons.mpr ⟨rfl, (List.forall_mem_cons.mpr ⟨rfl, fun _ h => nomatch h⟩)⟩)⟩) rfl dX8_doubt_42 aw_kt (aw_kq ?_)
      refine r_if_ne (pc := 45) (tgt := 52) dX8_doubt_45 (by decide) (fun h45 => ?_) (fun h45 => ?_)
      · refine r_iconst (pc := 52) (v := 0) dX8_doubt_52 (by decide) ?_
        refine mp_66 (pc := 53) hP rfl dX8_doubt_53 ?_
        refine r_aload_n (pc := 56) dX8_doubt_56 rfl rfl ?_
        refine mgv_66 (pc := 57) (x := 0) hP rfl rfl dX8_doubt_57 ?_
        refine r_if_le (pc := 60) (tgt := 65) dX8_doubt_60 (by decide) (fun _ => ?_) (fun h => absurd h (by decide))
        refine r_aload_n (pc := 65) dX8_doubt_65 rfl rfl ?_
        refine mg_35 (pc := 66) hP rfl dX8_doubt_66 ?_
        refine r_iload_n (pc := 69) dX8_doubt_69 rfl rfl ?_
        refine mln_11 (pc := 70) (a) hP ⟨rfl, ha20⟩ dX8_doubt_70 ?_
        refine r_iload_n (pc := 71) dX8_doubt_71 rfl rfl ?_
        refine r_ishr (pc := 72) dX8_doubt_72 ?_
        refine r_iconst (pc := 73) (v := 1) dX8_doubt_73 (by decide) ?_
        refine r_iand (pc := 74) dX8_doubt_74 ?_
        refine r_iconst (pc := 75) (v := 1) dX8_doubt_75 (by decide) ?_
        refine r_icmp_ne (pc := 76) (tgt := 83) dX8_doubt_76 (by decide) (fun h76 => ?_) (fun h76 => ?_)
        · refine r_iconst (pc := 83) (v := 0) dX8_doubt_83 (by decide) ?_
          refine r_istore_n (pc := 84) dX8_doubt_84 rfl (Nat.le_of_ble_eq_true rfl) rfl ?_
          refine r_aload_n (pc := 85) dX8_doubt_85 rfl rfl ?_
          refine mg_35 (pc := 86) hP rfl dX8_doubt_86 ?_
          refine r_iload_n (pc := 89) dX8_doubt_89 rfl rfl ?_
          refine r_dup2 (pc := 90) dX8_doubt_90 rfl rfl ?_
          refine mln_11 (pc := 91) (a) hP ⟨rfl, ha20⟩ dX8_doubt_91 ?_
          refine r_iconst (pc := 92) (v := 1) dX8_doubt_92 (by decide) ?_
          refine r_iload_n (pc := 93) dX8_doubt_93 rfl rfl ?_
          refine r_ishl (pc := 94) dX8_doubt_94 ?_
          refine r_ior (pc := 95) dX8_doubt_95 ?_
          refine msn_11 (pc := 96) (a) hP ⟨rfl, ha20⟩ dX8_doubt_96 ?_
          refine r_aload_n (pc := 97) dX8_doubt_97 rfl rfl ?_
          refine mg_22 (pc := 98) hP rfl dX8_doubt_98 ?_
          refine r_iload_n (pc := 101) dX8_doubt_101 rfl rfl ?_
          refine r_iconst (pc := 102) (v := 3) dX8_doubt_102 (by decide) ?_
          refine msn_7 (pc := 103) (a) hP ⟨rfl, ha20⟩ dX8_doubt_103 ?_
          refine r_iload_n (pc := 104) dX8_doubt_104 rfl rfl ?_
          refine r_iret (pc := 105) rfl rfl dX8_doubt_105 ?_
          exact ⟨_, _, _, rfl, rfl, Or.inr ⟨⟨(Or.inr h31), h45⟩, rfl, rfl, by rw [show bitI (ar 11 a) f = false from decide_eq_false h76]; rfl⟩⟩
        · refine r_iconst (pc := 79) (v := 1) dX8_doubt_79 (by decide) ?_
          refine r_goto (pc := 80) (tgt := 84) dX8_doubt_80 (by decide) ?_
          refine r_istore_n (pc := 84) dX8_doubt_84 rfl (Nat.le_of_ble_eq_true rfl) rfl ?_
          refine r_aload_n (pc := 85) dX8_doubt_85 rfl rfl ?_
          refine mg_35 (pc := 86) hP rfl dX8_doubt_86 ?_
          refine r_iload_n (pc := 89) dX8_doubt_89 rfl rfl ?_
          refine r_dup2 (pc := 90) dX8_doubt_90 rfl rfl ?_
          refine mln_11 (pc := 91) (a) hP ⟨rfl, ha20⟩ dX8_doubt_91 ?_
          refine r_iconst (pc := 92) (v := 1) dX8_doubt_92 (by decide) ?_
          refine r_iload_n (pc := 93) dX8_doubt_93 rfl rfl ?_
          refine r_ishl (pc := 94) dX8_doubt_94 ?_
          refine r_ior (pc := 95) dX8_doubt_95 ?_
          refine msn_11 (pc := 96) (a) hP ⟨rfl, ha20⟩ dX8_doubt_96 ?_
          refine r_aload_n (pc := 97) dX8_doubt_97 rfl rfl ?_
          refine mg_22 (pc := 98) hP rfl dX8_doubt_98 ?_
          refine r_iload_n (pc := 101) dX8_doubt_101 rfl rfl ?_
          refine r_iconst (pc := 102) (v := 3) dX8_doubt_102 (by decide) ?_
          refine msn_7 (pc := 103) (a) hP ⟨rfl, ha20⟩ dX8_doubt_103 ?_
          refine r_iload_n (pc := 104) dX8_doubt_104 rfl rfl ?_
          refine r_iret (pc := 105) rfl rfl dX8_doubt_105 ?_
          exact ⟨_, _, _, rfl, rfl, Or.inr ⟨⟨(Or.inr h31), h45⟩, rfl, rfl, by rw [show bitI (ar 11 a) f = true from decide_eq_true h76]; rfl⟩⟩
      · refine r_iconst (pc := 48) (v := 2) dX8_doubt_48 (by decide) ?_
        refine r_goto (pc := 49) (tgt := 53) dX8_doubt_49 (by decide) ?_
        refine mp_66 (pc := 53) hP rfl dX8_doubt_53 ?_
        refine r_aload_n (pc := 56) dX8_doubt_56 rfl rfl ?_
        refine mgv_66 (pc := 57) (x := 2) hP rfl rfl dX8_doubt_57 ?_
        refine r_if_le (pc := 60) (tgt := 65) dX8_doubt_60 (by decide) (fun h => absurd h (by decide)) (fun _ => ?_)
        refine r_iconst (pc := 63) (v := 0) dX8_doubt_63 (by decide) ?_
        refine r_iret (pc := 64) rfl rfl dX8_doubt_64 ?_
        exact ⟨0, _, _, rfl, rfl, Or.inl ⟨fun z => z.2 h45, rfl, rfl⟩⟩

set_option maxRecDepth 100000 in
set_option maxHeartbeats 4000000 in
theorem am_settle {G : aw_G} {P T : List va_E} {sc : Nat → Int32} {ar : Nat → Nat → Int32} (hP : P.length = 12) {tn vn an : Nat} {R : Nat → List Int32} {vv : Nat → Nat} (hM : MI tn vn an R vv sc ar) (a : Nat) (ha : a < an) (f : Nat) (hf : f < 6) (b : Int32) : AM G fX8_settle [.ref 12, .int (nI a), .int (nI f), .int b] (mw P sc ar T) (qe P T (fun v sc2 ar2 => (¬ (ar 7 a = 3 ∧ bitI (ar 11 a) f = true) ∧ sc2 = upd sc 12 2 ∧ ar2 = ar) ∨ ((ar 7 a = 3 ∧ bitI (ar 11 a) f = true) ∧ sc2 = upd sc 12 0 ∧ ((b ≠ 0 ∧ ar2 = va_up (va_up ar 11 (upd (ar 11) a (ar 11 a &&& (b1 f ^^^ (-1))))) 7 (upd (ar 7) a (if (ar 11 a &&& (b1 f ^^^ (-1))) = 0 then 1 else 3)) ∧ v = if (ar 11 a &&& (b1 f ^^^ (-1))) = 0 then 1 else 3) ∨ (b = 0 ∧ ar2 = va_up ar 7 (upd (ar 7) a 4) ∧ v = 4))))) := by
  refine AM_of (by decide) rfl rfl (Nat.le_of_ble_eq_true rfl) ?_
  show AW G fX8_settle 0 0 (mw P sc ar T) 0 [some (.ref 12), some (.int (nI a)), some (.int (nI f)), some (.int b)] [] _
  have hv := (hM.2.2.2.2.2.2.2 a ha).1
  have hvl : vv a < 10 := by have := (hM.2.2.2.2.2.2.2 a ha).2; have := hM.2.2.2.1; omega
  have ha20 : a < 20 := by have := hM.2.2.2.2.2.1; omega
  have hR := hM.2.2.2.2.2.2.1
  refine r_aload_n (pc := 0) dX8_settle_0 rfl rfl ?_
  refine r_aload_n (pc := 1) dX8_settle_1 rfl rfl ?_
  refine r_iload_n (pc := 2) dX8_settle_2 rfl rfl ?_
  refine r_iload_n (pc := 3) dX8_settle_3 rfl rfl ?_
  refine s_X8_202 (pc := 4) (kc' := 0) (ks' := 0) rfl rfl (am_areOne hP _ _) (mw_o hP) (Nat.le_of_ble_eq_true rfl) (Nat.le_of_ble_eq_true rfl) (Nat.le_of_ble_eq_true rfl) (Nat.le_of_ble_eq_true rfl) (by exact (Nat.le_of_ble_eq_true rfl)) rfl (List.forall_mem_cons.mpr ⟨rfl, (List.forall_mem_cons.mpr ⟨rfl, (List.forall_mem_cons.mpr ⟨rfl, fun _ h => nomatch h⟩)⟩)⟩) rfl dX8_settle_4 aw_kt (aw_kq ?_)
  refine r_if_ne (pc := 7) (tgt := 14) dX8_settle_7 (by decide) (fun h7 => ?_) (fun h => absurd (bi_eq.mp h) (by rw [decide_eq_true (show (0 ≤ nI a ∧ nI a ≤ sc 6 - 1) ∧ (0 ≤ nI f ∧ nI f ≤ 5) from ⟨by rw [hM.2.2.2.2.1]; exact inV_of ha hM.2.2.2.2.2.1, inF_of hf⟩)]; decide))
  refine r_aload_n (pc := 14) dX8_settle_14 rfl rfl ?_
  refine mg_22 (pc := 15) hP rfl dX8_settle_15 ?_
  refine r_iload_n (pc := 18) dX8_settle_18 rfl rfl ?_
  refine mln_7 (pc := 19) (a) hP ⟨rfl, ha20⟩ dX8_settle_19 ?_
  refine r_iconst (pc := 20) (v := 3) dX8_settle_20 (by decide) ?_
  refine r_icmp_ne (pc := 21) (tgt := 37) dX8_settle_21 (by decide) (fun h21 => ?_) (fun h21 => ?_)
  · refine r_iconst (pc := 37) (v := 2) dX8_settle_37 (by decide) ?_
    refine r_goto (pc := 38) (tgt := 42) dX8_settle_38 (by decide) ?_
    refine mp_66 (pc := 42) hP rfl dX8_settle_42 ?_
    refine r_aload_n (pc := 45) dX8_settle_45 rfl rfl ?_
    refine mgv_66 (pc := 46) (x := 2) hP rfl rfl dX8_settle_46 ?_
    refine r_if_le (pc := 49) (tgt := 54) dX8_settle_49 (by decide) (fun h => absurd h (by decide)) (fun _ => ?_)
    refine r_iconst (pc := 52) (v := 0) dX8_settle_52 (by decide) ?_
    refine r_iret (pc := 53) rfl rfl dX8_settle_53 ?_
    exact ⟨0, _, _, rfl, rfl, Or.inl ⟨fun z => h21 z.1, rfl, rfl⟩⟩
  · refine r_aload_n (pc := 24) dX8_settle_24 rfl rfl ?_
    refine mg_35 (pc := 25) hP rfl dX8_settle_25 ?_
    refine r_iload_n (pc := 28) dX8_settle_28 rfl rfl ?_
    refine mln_11 (pc := 29) (a) hP ⟨rfl, ha20⟩ dX8_settle_29 ?_
    refine r_iload_n (pc := 30) dX8_settle_30 rfl rfl ?_
    refine r_ishr (pc := 31) dX8_settle_31 ?_
    refine r_iconst (pc := 32) (v := 1) dX8_settle_32 (by decide) ?_
    refine r_iand (pc := 33) dX8_settle_33 ?_
    refine r_if_ne (pc := 34) (tgt := 41) dX8_settle_34 (by decide) (fun h34 => ?_) (fun h34 => ?_)
    · refine r_iconst (pc := 41) (v := 0) dX8_settle_41 (by decide) ?_
      refine mp_66 (pc := 42) hP rfl dX8_settle_42 ?_
      refine r_aload_n (pc := 45) dX8_settle_45 rfl rfl ?_
      refine mgv_66 (pc := 46) (x := 0) hP rfl rfl dX8_settle_46 ?_
      refine r_if_le (pc := 49) (tgt := 54) dX8_settle_49 (by decide) (fun _ => ?_) (fun h => absurd h (by decide))
      refine r_iload_n (pc := 54) dX8_settle_54 rfl rfl ?_
      refine r_if_eq (pc := 55) (tgt := 95) dX8_settle_55 (by decide) (fun h55 => ?_) (fun h55 => ?_)
      · refine r_aload_n (pc := 95) dX8_settle_95 rfl rfl ?_
        refine mg_22 (pc := 96) hP rfl dX8_settle_96 ?_
        refine r_iload_n (pc := 99) dX8_settle_99 rfl rfl ?_
        refine r_iconst (pc := 100) (v := 4) dX8_settle_100 (by decide) ?_
        refine msn_7 (pc := 101) (a) hP ⟨rfl, ha20⟩ dX8_settle_101 ?_
        refine r_aload_n (pc := 102) dX8_settle_102 rfl rfl ?_
        refine mg_22 (pc := 103) hP rfl dX8_settle_103 ?_
        refine r_iload_n (pc := 106) dX8_settle_106 rfl rfl ?_
        refine mln_7 (pc := 107) (a) hP ⟨rfl, ha20⟩ dX8_settle_107 ?_
        refine r_iret (pc := 108) rfl rfl dX8_settle_108 ?_
        exact ⟨4, _, _, by rw [va_up_self, upd_s], rfl, Or.inr ⟨⟨h21, bi_ne.mp (by rw [← bit01 (by omega)]; exact h34)⟩, rfl, Or.inr ⟨h55, rfl, rfl⟩⟩⟩
      · refine r_aload_n (pc := 58) dX8_settle_58 rfl rfl ?_
        refine mg_35 (pc := 59) hP rfl dX8_settle_59 ?_
        refine r_iload_n (pc := 62) dX8_settle_62 rfl rfl ?_
        refine r_dup2 (pc := 63) dX8_settle_63 rfl rfl ?_
        refine mln_11 (pc := 64) (a) hP ⟨rfl, ha20⟩ dX8_settle_64 ?_
        refine r_iconst (pc := 65) (v := 1) dX8_settle_65 (by decide) ?_
        refine r_iload_n (pc := 66) dX8_settle_66 rfl rfl ?_
        refine r_ishl (pc := 67) dX8_settle_67 ?_
        refine r_iconst (pc := 68) (v := -1) dX8_settle_68 (by decide) ?_
        refine r_ixor (pc := 69) dX8_settle_69 ?_
        refine r_iand (pc := 70) dX8_settle_70 ?_
        refine msn_11 (pc := 71) (a) hP ⟨rfl, ha20⟩ dX8_settle_71 ?_
        refine r_aload_n (pc := 72) dX8_settle_72 rfl rfl ?_
        refine mg_22 (pc := 73) hP rfl dX8_settle_73 ?_
        refine r_iload_n (pc := 76) dX8_settle_76 rfl rfl ?_
        refine r_aload_n (pc := 77) dX8_settle_77 rfl rfl ?_
        refine mg_35 (pc := 78) hP rfl dX8_settle_78 ?_
        refine r_iload_n (pc := 81) dX8_settle_81 rfl rfl ?_
        refine mln_11 (pc := 82) (a) hP ⟨rfl, ha20⟩ dX8_settle_82 ?_
        refine r_if_ne (pc := 83) (tgt := 90) dX8_settle_83 (by decide) (fun h83 => ?_) (fun h83 => ?_)
        · refine r_iconst (pc := 90) (v := 3) dX8_settle_90 (by decide) ?_
          refine msn_7 (pc := 91) (a) hP ⟨rfl, ha20⟩ dX8_settle_91 ?_
          refine r_goto (pc := 92) (tgt := 102) dX8_settle_92 (by decide) ?_
          refine r_aload_n (pc := 102) dX8_settle_102 rfl rfl ?_
          refine mg_22 (pc := 103) hP rfl dX8_settle_103 ?_
          refine r_iload_n (pc := 106) dX8_settle_106 rfl rfl ?_
          refine mln_7 (pc := 107) (a) hP ⟨rfl, ha20⟩ dX8_settle_107 ?_
          refine r_iret (pc := 108) rfl rfl dX8_settle_108 ?_
          have h9 : ¬ (ar 11 a &&& (b1 f ^^^ (-1))) = 0 := by
            have h8 := h83
            rw [va_up_self, upd_s] at h8
            exact h8
          exact ⟨3, _, _, by rw [va_up_self, upd_s], rfl, Or.inr ⟨⟨h21, bi_ne.mp (by rw [← bit01 (by omega)]; exact h34)⟩, rfl, Or.inl ⟨h55, by rw [if_neg h9]; rfl, by rw [if_neg h9]⟩⟩⟩
        · refine r_iconst (pc := 86) (v := 1) dX8_settle_86 (by decide) ?_
          refine r_goto (pc := 87) (tgt := 91) dX8_settle_87 (by decide) ?_
          refine msn_7 (pc := 91) (a) hP ⟨rfl, ha20⟩ dX8_settle_91 ?_
          refine r_goto (pc := 92) (tgt := 102) dX8_settle_92 (by decide) ?_
          refine r_aload_n (pc := 102) dX8_settle_102 rfl rfl ?_
          refine mg_22 (pc := 103) hP rfl dX8_settle_103 ?_
          refine r_iload_n (pc := 106) dX8_settle_106 rfl rfl ?_
          refine mln_7 (pc := 107) (a) hP ⟨rfl, ha20⟩ dX8_settle_107 ?_
          refine r_iret (pc := 108) rfl rfl dX8_settle_108 ?_
          have h9 : (ar 11 a &&& (b1 f ^^^ (-1))) = 0 := by
            have h8 := h83
            rw [va_up_self, upd_s] at h8
            exact h8
          exact ⟨1, _, _, by rw [va_up_self, upd_s], rfl, Or.inr ⟨⟨h21, bi_ne.mp (by rw [← bit01 (by omega)]; exact h34)⟩, rfl, Or.inl ⟨h55, by rw [if_pos h9]; rfl, by rw [if_pos h9]⟩⟩⟩
    · refine r_iconst (pc := 37) (v := 2) dX8_settle_37 (by decide) ?_
      refine r_goto (pc := 38) (tgt := 42) dX8_settle_38 (by decide) ?_
      refine mp_66 (pc := 42) hP rfl dX8_settle_42 ?_
      refine r_aload_n (pc := 45) dX8_settle_45 rfl rfl ?_
      refine mgv_66 (pc := 46) (x := 2) hP rfl rfl dX8_settle_46 ?_
      refine r_if_le (pc := 49) (tgt := 54) dX8_settle_49 (by decide) (fun h => absurd h (by decide)) (fun _ => ?_)
      refine r_iconst (pc := 52) (v := 0) dX8_settle_52 (by decide) ?_
      refine r_iret (pc := 53) rfl rfl dX8_settle_53 ?_
      exact ⟨0, _, _, rfl, rfl, Or.inl ⟨fun z => absurd z.2 (by rw [bi_eq.mp ((bit01 (by omega)).symm.trans h34)]; decide), rfl, rfl⟩⟩

end M8
