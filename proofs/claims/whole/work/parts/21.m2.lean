/-! ===== the reference: its scan ===== -/
section M2
theorem fa_upd_same9 (f : Nat → Int32) (i : Nat) : upd f i (f i) = f := by
  funext j
  unfold upd
  by_cases h : j = i
  · rw [if_pos h, h]
  · rw [if_neg h]
set_option maxRecDepth 100000 in
set_option maxHeartbeats 4000000 in
theorem lp_endFactor {G : aw_G} {P T : List va_E} {ar : Nat → Nat → Int32} (hP : P.length = 12) : ∀ (os : List Int32) (sc : Nat → Int32), sc 14 = nI os.length → stk (ar 13) os → os.length ≤ 8 → AW G fX8_endFactor 0 0 (mw P sc ar T) 0 [some (.ref 12)] [] (qx (.inl none) (mw P (upd sc 14 (nI (endF os).length)) ar T)) := by
  intro os
  induction os with
  | nil =>
    intro sc h14 hs hl
    refine r_aload_n (pc := 0) dX8_endFactor_0 rfl rfl ?_
    refine mg_73 (pc := 1) hP rfl dX8_endFactor_1 ?_
    refine r_if_le (pc := 4) (tgt := 36) dX8_endFactor_4 (by decide) (fun h4 => ?_) (fun h4 => absurd (by rw [h14]; decide) h4)
    refine r_vret (pc := 36) rfl dX8_endFactor_36 ?_
    exact ⟨rfl, by rw [show nI (endF []).length = sc 14 from h14.symm, fa_upd_same9]⟩
  | cons x l ih =>
    intro sc h14 hs hl
    refine r_aload_n (pc := 0) dX8_endFactor_0 rfl rfl ?_
    refine mg_73 (pc := 1) hP rfl dX8_endFactor_1 ?_
    refine r_if_le (pc := 4) (tgt := 36) dX8_endFactor_4 (by decide) (fun h4 => ?_) (fun h4 => ?_)
    · refine r_vret (pc := 36) rfl dX8_endFactor_36 ?_
      exact absurd h4 (by rw [h14]; exact nI_nle (by simp) (by simp at hl ⊢; omega))
    · refine r_aload_n (pc := 7) dX8_endFactor_7 rfl rfl ?_
      refine mg_38 (pc := 8) hP rfl dX8_endFactor_8 ?_
      refine r_aload_n (pc := 11) dX8_endFactor_11 rfl rfl ?_
      refine mg_73 (pc := 12) hP rfl dX8_endFactor_12 ?_
      refine r_iconst (pc := 15) (v := 1) dX8_endFactor_15 (by decide) ?_
      refine r_isub (pc := 16) dX8_endFactor_16 ?_
      refine mln_13 (pc := 17) (l.length) hP ⟨by rw [h14]; exact pk_sub (b := 1) (Nat.succ_le_succ (Nat.zero_le _)), by simp at hl; omega⟩ dX8_endFactor_17 ?_
      refine r_bipush (pc := 18) (v := 33) dX8_endFactor_18 (by decide) ?_
      refine r_icmp_ne (pc := 20) (tgt := 36) dX8_endFactor_20 (by decide) (fun h20 => ?_) (fun h20 => ?_)
      · refine r_vret (pc := 36) rfl dX8_endFactor_36 ?_
        have hx : ¬ x = 33 := by rw [← hs.1]; exact h20
        rw [show endF (x :: l) = x :: l by simp [endF, hx]]
        exact ⟨rfl, by rw [← h14]; exact congrArg (fun z => mw P z ar T) (fa_upd_same9 sc 14).symm⟩
      · refine r_aload_n (pc := 23) dX8_endFactor_23 rfl rfl ?_
        refine r_dup (pc := 24) dX8_endFactor_24 rfl ?_
        refine mg_73 (pc := 25) hP rfl dX8_endFactor_25 ?_
        refine r_iconst (pc := 28) (v := 1) dX8_endFactor_28 (by decide) ?_
        refine r_isub (pc := 29) dX8_endFactor_29 ?_
        refine mp_73 (pc := 30) hP rfl dX8_endFactor_30 ?_
        refine r_goto (pc := 33) (tgt := 0) dX8_endFactor_33 (by decide) ?_
        have hx : x = 33 := by rw [← hs.1]; exact h20
        have e1 : (upd sc 14 (sc 14 - 1)) 14 = nI l.length := by rw [upd_s, h14]; exact pk_sub (b := 1) (Nat.succ_le_succ (Nat.zero_le _))
        have h9 := ih (upd sc 14 (sc 14 - 1)) e1 hs.2 (by simp at hl; omega)
        rw [upd_u] at h9
        rw [show endF (x :: l) = endF l by simp [endF, hx]]
        exact h9
theorem am_endFactor {G : aw_G} {P T : List va_E} {sc : Nat → Int32} {ar : Nat → Nat → Int32} (hP : P.length = 12) {os : List Int32} (h14 : sc 14 = nI os.length) (hs : stk (ar 13) os) (hl : os.length ≤ 8) : AM G fX8_endFactor [.ref 12] (mw P sc ar T) (qx (.inl none) (mw P (upd sc 14 (nI (endF os).length)) ar T)) := by
  refine AM_of (by decide) rfl rfl (Nat.le_of_ble_eq_true rfl) ?_
  exact lp_endFactor hP os sc h14 hs hl
set_option maxRecDepth 100000 in
set_option maxHeartbeats 4000000 in
theorem am_opens {G : aw_G} {P T : List va_E} {sc : Nat → Int32} {ar : Nat → Nat → Int32} (hP : P.length = 12) (c : Int32) {os : List Int32} {rel : List Bool} (hpS : pS sc ar os rel) : AM G fX8_opens [.ref 12, .int c] (mw P sc ar T) (qm P T (.inl (some (.int (bi (opensP c os rel).isSome)))) (fun sc2 ar2 => ag [14, 16] [13, 15] sc ar sc2 ar2 ∧ ∀ q, opensP c os rel = some q → pS sc2 ar2 q.1 q.2)) := by
  refine AM_of (by decide) rfl rfl (Nat.le_of_ble_eq_true rfl) ?_
  show AW G fX8_opens 0 0 (mw P sc ar T) 0 [some (.ref 12), some (.int c)] [] _
  refine r_iload_n (pc := 0) dX8_opens_0 rfl rfl ?_
  refine r_bipush (pc := 1) (v := 40) dX8_opens_1 (by decide) ?_
  refine r_icmp_eq (pc := 3) (tgt := 12) dX8_opens_3 (by decide) (fun h3 => ?_) (fun h3 => ?_)
  · refine r_aload_n (pc := 12) dX8_opens_12 rfl rfl ?_
    refine mg_73 (pc := 13) hP rfl dX8_opens_13 ?_
    refine r_bipush (pc := 16) (v := 6) dX8_opens_16 (by decide) ?_
    refine r_icmp_ne (pc := 18) (tgt := 23) dX8_opens_18 (by decide) (fun h18 => ?_) (fun h18 => ?_)
    · refine r_aload_n (pc := 23) dX8_opens_23 rfl rfl ?_
      refine mg_38 (pc := 24) hP rfl dX8_opens_24 ?_
      refine r_aload_n (pc := 27) dX8_opens_27 rfl rfl ?_
      refine mg_73 (pc := 28) hP rfl dX8_opens_28 ?_
      refine r_iload_n (pc := 31) dX8_opens_31 rfl rfl ?_
      refine msn_13 (pc := 32) (os.length) hP ⟨hpS.1, by have := hpS.2.2.1; omega⟩ dX8_opens_32 ?_
      refine r_aload_n (pc := 33) dX8_opens_33 rfl rfl ?_
      refine r_dup (pc := 34) dX8_opens_34 rfl ?_
      refine mg_73 (pc := 35) hP rfl dX8_opens_35 ?_
      refine r_iconst (pc := 38) (v := 1) dX8_opens_38 (by decide) ?_
      refine r_iadd (pc := 39) dX8_opens_39 ?_
      refine mp_73 (pc := 40) hP rfl dX8_opens_40 ?_
      refine r_iload_n (pc := 43) dX8_opens_43 rfl rfl ?_
      refine r_bipush (pc := 44) (v := 40) dX8_opens_44 (by decide) ?_
      refine r_icmp_ne (pc := 46) (tgt := 69) dX8_opens_46 (by decide) (fun h46 => ?_) (fun h46 => ?_)
      · refine r_iconst (pc := 69) (v := 1) dX8_opens_69 (by decide) ?_
        refine r_iret (pc := 70) rfl rfl dX8_opens_70 ?_
        have hc : c = 33 := by
          have hn : ¬ c = 40 := h46
          first | exact absurd h3 hn | exact h9
        subst hc
        have hl6 : os.length ≠ 6 := fun z => h18 (by rw [hpS.1, z]; rfl)
        have e : opensP 33 os rel = some (33 :: os, rel) := by simp [opensP, hl6]
        rw [e]
        obtain ⟨p1, p2, p3, p4, p5, p7, p8⟩ := hpS
        refine ⟨rfl, _, _, rfl, ag_s (ag_a ag_rf 13 _ (by decide)) 14 _ (by decide), fun q hq => ?_⟩
        cases hq
        refine ⟨?_, ?_, ?_, ?_, ?_, ?_, ?_⟩
        · rw [upd_s, p1]; exact nI_1 _
        · rw [va_up_self]; exact stk_push p2
        · simp; omega
        · rw [upd_n _ _ (by decide), p4]
        · rw [va_up_ne _ _ (by decide)]; exact p5
        · show rel.length = _; simp [c4]; omega
        · exact fun x hx => (List.mem_cons.mp hx).elim Or.inr (p8 x)
      · refine r_aload_n (pc := 49) dX8_opens_49 rfl rfl ?_
        refine r_dup (pc := 50) dX8_opens_50 rfl ?_
        refine mg_76 (pc := 51) hP rfl dX8_opens_51 ?_
        refine r_iconst (pc := 54) (v := 1) dX8_opens_54 (by decide) ?_
        refine r_iadd (pc := 55) dX8_opens_55 ?_
        refine mp_76 (pc := 56) hP rfl dX8_opens_56 ?_
        refine r_aload_n (pc := 59) dX8_opens_59 rfl rfl ?_
        refine mg_41 (pc := 60) hP rfl dX8_opens_60 ?_
        refine r_aload_n (pc := 63) dX8_opens_63 rfl rfl ?_
        refine mg_76 (pc := 64) hP rfl dX8_opens_64 ?_
        refine r_iconst (pc := 67) (v := 0) dX8_opens_67 (by decide) ?_
        refine msn_15 (pc := 68) (rel.length - 1 + 1) hP ⟨by rw [upd_s, upd_n _ _ (by decide), hpS.2.2.2.1]; exact nI_1 _, by have := hpS.2.2.1; have := hpS.2.2.2.2.2.1; have := c4_le os; omega⟩ dX8_opens_68 ?_
        refine r_iconst (pc := 69) (v := 1) dX8_opens_69 (by decide) ?_
        refine r_iret (pc := 70) rfl rfl dX8_opens_70 ?_
        have hc : c = 40 := h46
        subst hc
        have hl6 : os.length ≠ 6 := fun z => h18 (by rw [hpS.1, z]; rfl)
        have e : opensP 40 os rel = some (40 :: os, false :: rel) := by simp [opensP, hl6]
        rw [e]
        obtain ⟨p1, p2, p3, p4, p5, p7, p8⟩ := hpS
        refine ⟨rfl, _, _, rfl, ag_a (ag_s (ag_s (ag_a ag_rf 13 _ (by decide)) 14 _ (by decide)) 16 _ (by decide)) 15 _ (by decide), fun q hq => ?_⟩
        cases hq
        refine ⟨?_, ?_, ?_, ?_, ?_, ?_, ?_⟩
        · rw [upd_n _ _ (by decide), upd_s, p1]; exact nI_1 _
        · rw [va_up_ne _ _ (by decide), va_up_self]; exact stk_push p2
        · simp; omega
        · rw [upd_s, upd_n _ _ (by decide), p4]
          rw [nI_1]; congr 1; simp; omega
        · rw [va_up_self]
          have hj : rel.length - 1 + 1 = (rel.map bi).length := by rw [List.length_map]; omega
          rw [hj]
          exact stk_push (x := bi false) p5
        · show rel.length + 1 = _; simp [c4]; omega
        · exact fun x hx => (List.mem_cons.mp hx).elim Or.inl (p8 x)
    · refine r_iconst (pc := 21) (v := 0) dX8_opens_21 (by decide) ?_
      refine r_iret (pc := 22) rfl rfl dX8_opens_22 ?_
      have hl6 : os.length = 6 := by
        have h9 : sc 14 = 6 := h18
        rw [hpS.1] at h9
        exact (nI_eq (b := 6) (by have := hpS.2.2.1; omega) (by decide)).mp h9
      have e : opensP c os rel = none := by simp [opensP, hl6]
      rw [e]
      exact ⟨rfl, sc, ar, rfl, ag_rf, fun q hq => by cases hq⟩
  · refine r_iload_n (pc := 6) dX8_opens_6 rfl rfl ?_
    refine r_bipush (pc := 7) (v := 33) dX8_opens_7 (by decide) ?_
    refine r_icmp_ne (pc := 9) (tgt := 21) dX8_opens_9 (by decide) (fun h9 => ?_) (fun h9 => ?_)
    · refine r_iconst (pc := 21) (v := 0) dX8_opens_21 (by decide) ?_
      refine r_iret (pc := 22) rfl rfl dX8_opens_22 ?_
      have h3b : ¬ c = 40 := h3
      have h9b : ¬ c = 33 := h9
      have e : opensP c os rel = none := by simp [opensP, h3b, h9b]
      rw [e]
      exact ⟨rfl, sc, ar, rfl, ag_rf, fun q hq => by cases hq⟩
    · refine r_aload_n (pc := 12) dX8_opens_12 rfl rfl ?_
      refine mg_73 (pc := 13) hP rfl dX8_opens_13 ?_
      refine r_bipush (pc := 16) (v := 6) dX8_opens_16 (by decide) ?_
      refine r_icmp_ne (pc := 18) (tgt := 23) dX8_opens_18 (by decide) (fun h18 => ?_) (fun h18 => ?_)
      · refine r_aload_n (pc := 23) dX8_opens_23 rfl rfl ?_
        refine mg_38 (pc := 24) hP rfl dX8_opens_24 ?_
        refine r_aload_n (pc := 27) dX8_opens_27 rfl rfl ?_
        refine mg_73 (pc := 28) hP rfl dX8_opens_28 ?_
        refine r_iload_n (pc := 31) dX8_opens_31 rfl rfl ?_
        refine msn_13 (pc := 32) (os.length) hP ⟨hpS.1, by have := hpS.2.2.1; omega⟩ dX8_opens_32 ?_
        refine r_aload_n (pc := 33) dX8_opens_33 rfl rfl ?_
        refine r_dup (pc := 34) dX8_opens_34 rfl ?_
        refine mg_73 (pc := 35) hP rfl dX8_opens_35 ?_
        refine r_iconst (pc := 38) (v := 1) dX8_opens_38 (by decide) ?_
        refine r_iadd (pc := 39) dX8_opens_39 ?_
        refine mp_73 (pc := 40) hP rfl dX8_opens_40 ?_
        refine r_iload_n (pc := 43) dX8_opens_43 rfl rfl ?_
        refine r_bipush (pc := 44) (v := 40) dX8_opens_44 (by decide) ?_
        refine r_icmp_ne (pc := 46) (tgt := 69) dX8_opens_46 (by decide) (fun h46 => ?_) (fun h46 => ?_)
        · refine r_iconst (pc := 69) (v := 1) dX8_opens_69 (by decide) ?_
          refine r_iret (pc := 70) rfl rfl dX8_opens_70 ?_
          have hc : c = 33 := by
            have hn : ¬ c = 40 := h46
            first | exact absurd h3 hn | exact h9
          subst hc
          have hl6 : os.length ≠ 6 := fun z => h18 (by rw [hpS.1, z]; rfl)
          have e : opensP 33 os rel = some (33 :: os, rel) := by simp [opensP, hl6]
          rw [e]
          obtain ⟨p1, p2, p3, p4, p5, p7, p8⟩ := hpS
          refine ⟨rfl, _, _, rfl, ag_s (ag_a ag_rf 13 _ (by decide)) 14 _ (by decide), fun q hq => ?_⟩
          cases hq
          refine ⟨?_, ?_, ?_, ?_, ?_, ?_, ?_⟩
          · rw [upd_s, p1]; exact nI_1 _
          · rw [va_up_self]; exact stk_push p2
          · simp; omega
          · rw [upd_n _ _ (by decide), p4]
          · rw [va_up_ne _ _ (by decide)]; exact p5
          · show rel.length = _; simp [c4]; omega
          · exact fun x hx => (List.mem_cons.mp hx).elim Or.inr (p8 x)
        · refine r_aload_n (pc := 49) dX8_opens_49 rfl rfl ?_
          refine r_dup (pc := 50) dX8_opens_50 rfl ?_
          refine mg_76 (pc := 51) hP rfl dX8_opens_51 ?_
          refine r_iconst (pc := 54) (v := 1) dX8_opens_54 (by decide) ?_
          refine r_iadd (pc := 55) dX8_opens_55 ?_
          refine mp_76 (pc := 56) hP rfl dX8_opens_56 ?_
          refine r_aload_n (pc := 59) dX8_opens_59 rfl rfl ?_
          refine mg_41 (pc := 60) hP rfl dX8_opens_60 ?_
          refine r_aload_n (pc := 63) dX8_opens_63 rfl rfl ?_
          refine mg_76 (pc := 64) hP rfl dX8_opens_64 ?_
          refine r_iconst (pc := 67) (v := 0) dX8_opens_67 (by decide) ?_
          refine msn_15 (pc := 68) (rel.length - 1 + 1) hP ⟨by rw [upd_s, upd_n _ _ (by decide), hpS.2.2.2.1]; exact nI_1 _, by have := hpS.2.2.1; have := hpS.2.2.2.2.2.1; have := c4_le os; omega⟩ dX8_opens_68 ?_
          refine r_iconst (pc := 69) (v := 1) dX8_opens_69 (by decide) ?_
          refine r_iret (pc := 70) rfl rfl dX8_opens_70 ?_
          have hc : c = 40 := h46
          subst hc
          have hl6 : os.length ≠ 6 := fun z => h18 (by rw [hpS.1, z]; rfl)
          have e : opensP 40 os rel = some (40 :: os, false :: rel) := by simp [opensP, hl6]
          rw [e]
          obtain ⟨p1, p2, p3, p4, p5, p7, p8⟩ := hpS
          refine ⟨rfl, _, _, rfl, ag_a (ag_s (ag_s (ag_a ag_rf 13 _ (by decide)) 14 _ (by decide)) 16 _ (by decide)) 15 _ (by decide), fun q hq => ?_⟩
          cases hq
          refine ⟨?_, ?_, ?_, ?_, ?_, ?_, ?_⟩
          · rw [upd_n _ _ (by decide), upd_s, p1]; exact nI_1 _
          · rw [va_up_ne _ _ (by decide), va_up_self]; exact stk_push p2
          · simp; omega
          · rw [upd_s, upd_n _ _ (by decide), p4]
            rw [nI_1]; congr 1; simp; omega
          · rw [va_up_self]
            have hj : rel.length - 1 + 1 = (rel.map bi).length := by rw [List.length_map]; omega
            rw [hj]
            exact stk_push (x := bi false) p5
          · show rel.length + 1 = _; simp [c4]; omega
          · exact fun x hx => (List.mem_cons.mp hx).elim Or.inl (p8 x)
      · refine r_iconst (pc := 21) (v := 0) dX8_opens_21 (by decide) ?_
        refine r_iret (pc := 22) rfl rfl dX8_opens_22 ?_
        have hl6 : os.length = 6 := by
          have h9 : sc 14 = 6 := h18
          rw [hpS.1] at h9
          exact (nI_eq (b := 6) (by have := hpS.2.2.1; omega) (by decide)).mp h9
        have e : opensP c os rel = none := by simp [opensP, hl6]
        rw [e]
        exact ⟨rfl, sc, ar, rfl, ag_rf, fun q hq => by cases hq⟩

theorem stk_tail {f : Nat → Int32} : ∀ {l : List Int32}, stk f l → stk f l.tail
  | [], _ => trivial
  | _ :: _, h => h.2
set_option maxRecDepth 100000 in
set_option maxHeartbeats 4000000 in
theorem am_goesOn {G : aw_G} {P T : List va_E} {sc : Nat → Int32} {ar : Nat → Nat → Int32} (hP : P.length = 12) (c : Int32) {os : List Int32} {rel : List Bool} (hpS : pS sc ar os rel) (hb : c = 41 → os.head? ≠ some 33) : AM G fX8_goesOn [.ref 12, .int c] (mw P sc ar T) (qm P T (.inl (some (.int (bi (goesP c os rel).isSome)))) (fun sc2 ar2 => ag [14, 16] [13, 15] sc ar sc2 ar2 ∧ ∀ q, goesP c os rel = some q → pS sc2 ar2 q.1 q.2)) := by
  refine AM_of (by decide) rfl rfl (Nat.le_of_ble_eq_true rfl) ?_
  show AW G fX8_goesOn 0 0 (mw P sc ar T) 0 [some (.ref 12), some (.int c), none] [] _
  obtain ⟨p1, p2, p3, p4, p5, p7, p8⟩ := id hpS
  refine r_iload_n (pc := 0) dX8_goesOn_0 rfl rfl ?_
  refine r_bipush (pc := 1) (v := 41) dX8_goesOn_1 (by decide) ?_
  refine r_icmp_ne (pc := 3) (tgt := 41) dX8_goesOn_3 (by decide) (fun h3 => ?_) (fun h3 => ?_)
  · refine r_iload_n (pc := 41) dX8_goesOn_41 rfl rfl ?_
    refine r_bipush (pc := 42) (v := 60) dX8_goesOn_42 (by decide) ?_
    refine r_icmp_eq (pc := 44) (tgt := 59) dX8_goesOn_44 (by decide) (fun h44 => ?_) (fun h44 => ?_)
    · refine r_aload_n (pc := 59) dX8_goesOn_59 rfl rfl ?_
      refine mg_41 (pc := 60) hP rfl dX8_goesOn_60 ?_
      refine r_aload_n (pc := 63) dX8_goesOn_63 rfl rfl ?_
      refine mg_76 (pc := 64) hP rfl dX8_goesOn_64 ?_
      refine mln_15 (pc := 67) (rel.length - 1) hP ⟨p4, by have := c4_le os; omega⟩ dX8_goesOn_67 ?_
      refine r_if_ne (pc := 68) (tgt := 75) dX8_goesOn_68 (by decide) (fun h68 => ?_) (fun h68 => ?_)
      · refine r_iconst (pc := 75) (v := 0) dX8_goesOn_75 (by decide) ?_
        refine r_istore_n (pc := 76) dX8_goesOn_76 rfl (Nat.le_of_ble_eq_true rfl) rfl ?_
        refine r_aload_n (pc := 77) dX8_goesOn_77 rfl rfl ?_
        refine mg_41 (pc := 78) hP rfl dX8_goesOn_78 ?_
        refine r_aload_n (pc := 81) dX8_goesOn_81 rfl rfl ?_
        refine mg_76 (pc := 82) hP rfl dX8_goesOn_82 ?_
        refine r_iconst (pc := 85) (v := 1) dX8_goesOn_85 (by decide) ?_
        refine msn_15 (pc := 86) (rel.length - 1) hP ⟨p4, by have := c4_le os; omega⟩ dX8_goesOn_86 ?_
        refine r_iload_n (pc := 87) dX8_goesOn_87 rfl rfl ?_
        refine r_iret (pc := 88) rfl rfl dX8_goesOn_88 ?_
        have hc41 : ¬ c = 41 := h3
        have hc3 : c = 60 ∨ c = 61 ∨ c = 62 := Or.inl h44
        cases rel with
        | nil => exact absurd p7 (by simp)
        | cons b rl =>
          have hb : b = true := by
            have h9 : ¬ ar 15 rl.length = 0 := h68
            have h8 := p5.1
            rw [List.length_map] at h8
            rw [h8] at h9
            exact bi_ne.mp h9
          have e : goesP c os (b :: rl) = none := by simp [goesP, hc41, hc3, hb]
          rw [e]
          exact ⟨rfl, _, _, rfl, ag_a ag_rf 15 _ (by decide), fun q hq => by cases hq⟩
      · refine r_iconst (pc := 71) (v := 1) dX8_goesOn_71 (by decide) ?_
        refine r_goto (pc := 72) (tgt := 76) dX8_goesOn_72 (by decide) ?_
        refine r_istore_n (pc := 76) dX8_goesOn_76 rfl (Nat.le_of_ble_eq_true rfl) rfl ?_
        refine r_aload_n (pc := 77) dX8_goesOn_77 rfl rfl ?_
        refine mg_41 (pc := 78) hP rfl dX8_goesOn_78 ?_
        refine r_aload_n (pc := 81) dX8_goesOn_81 rfl rfl ?_
        refine mg_76 (pc := 82) hP rfl dX8_goesOn_82 ?_
        refine r_iconst (pc := 85) (v := 1) dX8_goesOn_85 (by decide) ?_
        refine msn_15 (pc := 86) (rel.length - 1) hP ⟨p4, by have := c4_le os; omega⟩ dX8_goesOn_86 ?_
        refine r_iload_n (pc := 87) dX8_goesOn_87 rfl rfl ?_
        refine r_iret (pc := 88) rfl rfl dX8_goesOn_88 ?_
        have hc41 : ¬ c = 41 := h3
        have hc3 : c = 60 ∨ c = 61 ∨ c = 62 := Or.inl h44
        cases rel with
        | nil => exact absurd p7 (by simp)
        | cons b rl =>
          have hb : b = false := by
            have h9 : ar 15 rl.length = 0 := h68
            have h8 := p5.1
            rw [List.length_map] at h8
            rw [h8] at h9
            exact bi_eq.mp h9
          have e : goesP c os (b :: rl) = some (os, true :: rl) := by simp [goesP, hc41, hc3, hb]
          rw [e]
          refine ⟨rfl, _, _, rfl, ag_a ag_rf 15 _ (by decide), fun q hq => ?_⟩
          cases hq
          refine ⟨p1, ?_, p3, p4, ?_, p7, p8⟩
          · rw [va_up_ne _ _ (by decide)]; exact p2
          · rw [va_up_self]
            have h9 := stk_top (y := bi true) p5
            rw [List.length_map] at h9
            exact h9
    · refine r_iload_n (pc := 47) dX8_goesOn_47 rfl rfl ?_
      refine r_bipush (pc := 48) (v := 61) dX8_goesOn_48 (by decide) ?_
      refine r_icmp_eq (pc := 50) (tgt := 59) dX8_goesOn_50 (by decide) (fun h50 => ?_) (fun h50 => ?_)
      · refine r_aload_n (pc := 59) dX8_goesOn_59 rfl rfl ?_
        refine mg_41 (pc := 60) hP rfl dX8_goesOn_60 ?_
        refine r_aload_n (pc := 63) dX8_goesOn_63 rfl rfl ?_
        refine mg_76 (pc := 64) hP rfl dX8_goesOn_64 ?_
        refine mln_15 (pc := 67) (rel.length - 1) hP ⟨p4, by have := c4_le os; omega⟩ dX8_goesOn_67 ?_
        refine r_if_ne (pc := 68) (tgt := 75) dX8_goesOn_68 (by decide) (fun h68 => ?_) (fun h68 => ?_)
        · refine r_iconst (pc := 75) (v := 0) dX8_goesOn_75 (by decide) ?_
          refine r_istore_n (pc := 76) dX8_goesOn_76 rfl (Nat.le_of_ble_eq_true rfl) rfl ?_
          refine r_aload_n (pc := 77) dX8_goesOn_77 rfl rfl ?_
          refine mg_41 (pc := 78) hP rfl dX8_goesOn_78 ?_
          refine r_aload_n (pc := 81) dX8_goesOn_81 rfl rfl ?_
          refine mg_76 (pc := 82) hP rfl dX8_goesOn_82 ?_
          refine r_iconst (pc := 85) (v := 1) dX8_goesOn_85 (by decide) ?_
          refine msn_15 (pc := 86) (rel.length - 1) hP ⟨p4, by have := c4_le os; omega⟩ dX8_goesOn_86 ?_
          refine r_iload_n (pc := 87) dX8_goesOn_87 rfl rfl ?_
          refine r_iret (pc := 88) rfl rfl dX8_goesOn_88 ?_
          have hc41 : ¬ c = 41 := h3
          have hc3 : c = 60 ∨ c = 61 ∨ c = 62 := Or.inr (Or.inl h50)
          cases rel with
          | nil => exact absurd p7 (by simp)
          | cons b rl =>
            have hb : b = true := by
              have h9 : ¬ ar 15 rl.length = 0 := h68
              have h8 := p5.1
              rw [List.length_map] at h8
              rw [h8] at h9
              exact bi_ne.mp h9
            have e : goesP c os (b :: rl) = none := by simp [goesP, hc41, hc3, hb]
            rw [e]
            exact ⟨rfl, _, _, rfl, ag_a ag_rf 15 _ (by decide), fun q hq => by cases hq⟩
        · refine r_iconst (pc := 71) (v := 1) dX8_goesOn_71 (by decide) ?_
          refine r_goto (pc := 72) (tgt := 76) dX8_goesOn_72 (by decide) ?_
          refine r_istore_n (pc := 76) dX8_goesOn_76 rfl (Nat.le_of_ble_eq_true rfl) rfl ?_
          refine r_aload_n (pc := 77) dX8_goesOn_77 rfl rfl ?_
          refine mg_41 (pc := 78) hP rfl dX8_goesOn_78 ?_
          refine r_aload_n (pc := 81) dX8_goesOn_81 rfl rfl ?_
          refine mg_76 (pc := 82) hP rfl dX8_goesOn_82 ?_
          refine r_iconst (pc := 85) (v := 1) dX8_goesOn_85 (by decide) ?_
          refine msn_15 (pc := 86) (rel.length - 1) hP ⟨p4, by have := c4_le os; omega⟩ dX8_goesOn_86 ?_
          refine r_iload_n (pc := 87) dX8_goesOn_87 rfl rfl ?_
          refine r_iret (pc := 88) rfl rfl dX8_goesOn_88 ?_
          have hc41 : ¬ c = 41 := h3
          have hc3 : c = 60 ∨ c = 61 ∨ c = 62 := Or.inr (Or.inl h50)
          cases rel with
          | nil => exact absurd p7 (by simp)
          | cons b rl =>
            have hb : b = false := by
              have h9 : ar 15 rl.length = 0 := h68
              have h8 := p5.1
              rw [List.length_map] at h8
              rw [h8] at h9
              exact bi_eq.mp h9
            have e : goesP c os (b :: rl) = some (os, true :: rl) := by simp [goesP, hc41, hc3, hb]
            rw [e]
            refine ⟨rfl, _, _, rfl, ag_a ag_rf 15 _ (by decide), fun q hq => ?_⟩
            cases hq
            refine ⟨p1, ?_, p3, p4, ?_, p7, p8⟩
            · rw [va_up_ne _ _ (by decide)]; exact p2
            · rw [va_up_self]
              have h9 := stk_top (y := bi true) p5
              rw [List.length_map] at h9
              exact h9
      · refine r_iload_n (pc := 53) dX8_goesOn_53 rfl rfl ?_
        refine r_bipush (pc := 54) (v := 62) dX8_goesOn_54 (by decide) ?_
        refine r_icmp_ne (pc := 56) (tgt := 89) dX8_goesOn_56 (by decide) (fun h56 => ?_) (fun h56 => ?_)
        · refine r_iload_n (pc := 89) dX8_goesOn_89 rfl rfl ?_
          refine r_bipush (pc := 90) (v := 38) dX8_goesOn_90 (by decide) ?_
          refine r_icmp_eq (pc := 92) (tgt := 101) dX8_goesOn_92 (by decide) (fun h92 => ?_) (fun h92 => ?_)
          · refine r_aload_n (pc := 101) dX8_goesOn_101 rfl rfl ?_
            refine mg_41 (pc := 102) hP rfl dX8_goesOn_102 ?_
            refine r_aload_n (pc := 105) dX8_goesOn_105 rfl rfl ?_
            refine mg_76 (pc := 106) hP rfl dX8_goesOn_106 ?_
            refine r_iconst (pc := 109) (v := 0) dX8_goesOn_109 (by decide) ?_
            refine msn_15 (pc := 110) (rel.length - 1) hP ⟨p4, by have := c4_le os; omega⟩ dX8_goesOn_110 ?_
            refine r_iconst (pc := 111) (v := 1) dX8_goesOn_111 (by decide) ?_
            refine r_iret (pc := 112) rfl rfl dX8_goesOn_112 ?_
            have hc41 : ¬ c = 41 := h3
            have hn3 : ¬ (c = 60 ∨ c = 61 ∨ c = 62) := by rintro (h | h | h) <;> contradiction
            have hc2 : c = 38 ∨ c = 124 := Or.inl h92
            cases rel with
            | nil => exact absurd p7 (by simp)
            | cons b rl =>
              have e : goesP c os (b :: rl) = some (os, false :: rl) := by simp [goesP, hc41, hn3, hc2]
              rw [e]
              refine ⟨rfl, _, _, rfl, ag_a ag_rf 15 _ (by decide), fun q hq => ?_⟩
              cases hq
              refine ⟨p1, ?_, p3, p4, ?_, p7, p8⟩
              · rw [va_up_ne _ _ (by decide)]; exact p2
              · rw [va_up_self]
                have h9 := stk_top (y := bi false) p5
                rw [List.length_map] at h9
                exact h9
          · refine r_iload_n (pc := 95) dX8_goesOn_95 rfl rfl ?_
            refine r_bipush (pc := 96) (v := 124) dX8_goesOn_96 (by decide) ?_
            refine r_icmp_ne (pc := 98) (tgt := 113) dX8_goesOn_98 (by decide) (fun h98 => ?_) (fun h98 => ?_)
            · refine r_iload_n (pc := 113) dX8_goesOn_113 rfl rfl ?_
              refine r_bipush (pc := 114) (v := 42) dX8_goesOn_114 (by decide) ?_
              refine r_icmp_eq (pc := 116) (tgt := 131) dX8_goesOn_116 (by decide) (fun h116 => ?_) (fun h116 => ?_)
              · refine r_iconst (pc := 131) (v := 1) dX8_goesOn_131 (by decide) ?_
                refine r_goto (pc := 132) (tgt := 136) dX8_goesOn_132 (by decide) ?_
                refine r_iret (pc := 136) rfl rfl dX8_goesOn_136 ?_
                have hc41 : ¬ c = 41 := h3
                have hn3 : ¬ (c = 60 ∨ c = 61 ∨ c = 62) := by rintro (h | h | h) <;> contradiction
                have hn2 : ¬ (c = 38 ∨ c = 124) := by rintro (h | h) <;> contradiction
                have hc1 : c = 42 ∨ c = 43 ∨ c = 45 := Or.inl h116
                have e : goesP c os rel = some (os, rel) := by simp [goesP, hc41, hn3, hn2, hc1]
                rw [e]
                refine ⟨rfl, _, _, rfl, ag_rf, fun q hq => ?_⟩
                cases hq
                exact ⟨p1, p2, p3, p4, p5, p7, p8⟩
              · refine r_iload_n (pc := 119) dX8_goesOn_119 rfl rfl ?_
                refine r_bipush (pc := 120) (v := 43) dX8_goesOn_120 (by decide) ?_
                refine r_icmp_eq (pc := 122) (tgt := 131) dX8_goesOn_122 (by decide) (fun h122 => ?_) (fun h122 => ?_)
                · refine r_iconst (pc := 131) (v := 1) dX8_goesOn_131 (by decide) ?_
                  refine r_goto (pc := 132) (tgt := 136) dX8_goesOn_132 (by decide) ?_
                  refine r_iret (pc := 136) rfl rfl dX8_goesOn_136 ?_
                  have hc41 : ¬ c = 41 := h3
                  have hn3 : ¬ (c = 60 ∨ c = 61 ∨ c = 62) := by rintro (h | h | h) <;> contradiction
                  have hn2 : ¬ (c = 38 ∨ c = 124) := by rintro (h | h) <;> contradiction
                  have hc1 : c = 42 ∨ c = 43 ∨ c = 45 := Or.inr (Or.inl h122)
                  have e : goesP c os rel = some (os, rel) := by simp [goesP, hc41, hn3, hn2, hc1]
                  rw [e]
                  refine ⟨rfl, _, _, rfl, ag_rf, fun q hq => ?_⟩
                  cases hq
                  exact ⟨p1, p2, p3, p4, p5, p7, p8⟩
                · refine r_iload_n (pc := 125) dX8_goesOn_125 rfl rfl ?_
                  refine r_bipush (pc := 126) (v := 45) dX8_goesOn_126 (by decide) ?_
                  refine r_icmp_ne (pc := 128) (tgt := 135) dX8_goesOn_128 (by decide) (fun h128 => ?_) (fun h128 => ?_)
                  · refine r_iconst (pc := 135) (v := 0) dX8_goesOn_135 (by decide) ?_
                    refine r_iret (pc := 136) rfl rfl dX8_goesOn_136 ?_
                    have hc41 : ¬ c = 41 := h3
                    have hn3 : ¬ (c = 60 ∨ c = 61 ∨ c = 62) := by rintro (h | h | h) <;> contradiction
                    have hn2 : ¬ (c = 38 ∨ c = 124) := by rintro (h | h) <;> contradiction
                    have hn1 : ¬ (c = 42 ∨ c = 43 ∨ c = 45) := by rintro (h | h | h) <;> contradiction
                    have e : goesP c os rel = none := by simp [goesP, hc41, hn3, hn2, hn1]
                    rw [e]
                    exact ⟨rfl, _, _, rfl, ag_rf, fun q hq => by cases hq⟩
                  · refine r_iconst (pc := 131) (v := 1) dX8_goesOn_131 (by decide) ?_
                    refine r_goto (pc := 132) (tgt := 136) dX8_goesOn_132 (by decide) ?_
                    refine r_iret (pc := 136) rfl rfl dX8_goesOn_136 ?_
                    have hc41 : ¬ c = 41 := h3
                    have hn3 : ¬ (c = 60 ∨ c = 61 ∨ c = 62) := by rintro (h | h | h) <;> contradiction
                    have hn2 : ¬ (c = 38 ∨ c = 124) := by rintro (h | h) <;> contradiction
                    have hc1 : c = 42 ∨ c = 43 ∨ c = 45 := Or.inr (Or.inr h128)
                    have e : goesP c os rel = some (os, rel) := by simp [goesP, hc41, hn3, hn2, hc1]
                    rw [e]
                    refine ⟨rfl, _, _, rfl, ag_rf, fun q hq => ?_⟩
                    cases hq
                    exact ⟨p1, p2, p3, p4, p5, p7, p8⟩
            · refine r_aload_n (pc := 101) dX8_goesOn_101 rfl rfl ?_
              refine mg_41 (pc := 102) hP rfl dX8_goesOn_102 ?_
              refine r_aload_n (pc := 105) dX8_goesOn_105 rfl rfl ?_
              refine mg_76 (pc := 106) hP rfl dX8_goesOn_106 ?_
              refine r_iconst (pc := 109) (v := 0) dX8_goesOn_109 (by decide) ?_
              refine msn_15 (pc := 110) (rel.length - 1) hP ⟨p4, by have := c4_le os; omega⟩ dX8_goesOn_110 ?_
              refine r_iconst (pc := 111) (v := 1) dX8_goesOn_111 (by decide) ?_
              refine r_iret (pc := 112) rfl rfl dX8_goesOn_112 ?_
              have hc41 : ¬ c = 41 := h3
              have hn3 : ¬ (c = 60 ∨ c = 61 ∨ c = 62) := by rintro (h | h | h) <;> contradiction
              have hc2 : c = 38 ∨ c = 124 := Or.inr h98
              cases rel with
              | nil => exact absurd p7 (by simp)
              | cons b rl =>
                have e : goesP c os (b :: rl) = some (os, false :: rl) := by simp [goesP, hc41, hn3, hc2]
                rw [e]
                refine ⟨rfl, _, _, rfl, ag_a ag_rf 15 _ (by decide), fun q hq => ?_⟩
                cases hq
                refine ⟨p1, ?_, p3, p4, ?_, p7, p8⟩
                · rw [va_up_ne _ _ (by decide)]; exact p2
                · rw [va_up_self]
                  have h9 := stk_top (y := bi false) p5
                  rw [List.length_map] at h9
                  exact h9
        · refine r_aload_n (pc := 59) dX8_goesOn_59 rfl rfl ?_
          refine mg_41 (pc := 60) hP rfl dX8_goesOn_60 ?_
          refine r_aload_n (pc := 63) dX8_goesOn_63 rfl rfl ?_
          refine mg_76 (pc := 64) hP rfl dX8_goesOn_64 ?_
          refine mln_15 (pc := 67) (rel.length - 1) hP ⟨p4, by have := c4_le os; omega⟩ dX8_goesOn_67 ?_
          refine r_if_ne (pc := 68) (tgt := 75) dX8_goesOn_68 (by decide) (fun h68 => ?_) (fun h68 => ?_)
          · refine r_iconst (pc := 75) (v := 0) dX8_goesOn_75 (by decide) ?_
            refine r_istore_n (pc := 76) dX8_goesOn_76 rfl (Nat.le_of_ble_eq_true rfl) rfl ?_
            refine r_aload_n (pc := 77) dX8_goesOn_77 rfl rfl ?_
            refine mg_41 (pc := 78) hP rfl dX8_goesOn_78 ?_
            refine r_aload_n (pc := 81) dX8_goesOn_81 rfl rfl ?_
            refine mg_76 (pc := 82) hP rfl dX8_goesOn_82 ?_
            refine r_iconst (pc := 85) (v := 1) dX8_goesOn_85 (by decide) ?_
            refine msn_15 (pc := 86) (rel.length - 1) hP ⟨p4, by have := c4_le os; omega⟩ dX8_goesOn_86 ?_
            refine r_iload_n (pc := 87) dX8_goesOn_87 rfl rfl ?_
            refine r_iret (pc := 88) rfl rfl dX8_goesOn_88 ?_
            have hc41 : ¬ c = 41 := h3
            have hc3 : c = 60 ∨ c = 61 ∨ c = 62 := Or.inr (Or.inr h56)
            cases rel with
            | nil => exact absurd p7 (by simp)
            | cons b rl =>
              have hb : b = true := by
                have h9 : ¬ ar 15 rl.length = 0 := h68
                have h8 := p5.1
                rw [List.length_map] at h8
                rw [h8] at h9
                exact bi_ne.mp h9
              have e : goesP c os (b :: rl) = none := by simp [goesP, hc41, hc3, hb]
              rw [e]
              exact ⟨rfl, _, _, rfl, ag_a ag_rf 15 _ (by decide), fun q hq => by cases hq⟩
          · refine r_iconst (pc := 71) (v := 1) dX8_goesOn_71 (by decide) ?_
            refine r_goto (pc := 72) (tgt := 76) dX8_goesOn_72 (by decide) ?_
            refine r_istore_n (pc := 76) dX8_goesOn_76 rfl (Nat.le_of_ble_eq_true rfl) rfl ?_
            refine r_aload_n (pc := 77) dX8_goesOn_77 rfl rfl ?_
            refine mg_41 (pc := 78) hP rfl dX8_goesOn_78 ?_
            refine r_aload_n (pc := 81) dX8_goesOn_81 rfl rfl ?_
            refine mg_76 (pc := 82) hP rfl dX8_goesOn_82 ?_
            refine r_iconst (pc := 85) (v := 1) dX8_goesOn_85 (by decide) ?_
            refine msn_15 (pc := 86) (rel.length - 1) hP ⟨p4, by have := c4_le os; omega⟩ dX8_goesOn_86 ?_
            refine r_iload_n (pc := 87) dX8_goesOn_87 rfl rfl ?_
            refine r_iret (pc := 88) rfl rfl dX8_goesOn_88 ?_
            have hc41 : ¬ c = 41 := h3
            have hc3 : c = 60 ∨ c = 61 ∨ c = 62 := Or.inr (Or.inr h56)
            cases rel with
            | nil => exact absurd p7 (by simp)
            | cons b rl =>
              have hb : b = false := by
                have h9 : ar 15 rl.length = 0 := h68
                have h8 := p5.1
                rw [List.length_map] at h8
                rw [h8] at h9
                exact bi_eq.mp h9
              have e : goesP c os (b :: rl) = some (os, true :: rl) := by simp [goesP, hc41, hc3, hb]
              rw [e]
              refine ⟨rfl, _, _, rfl, ag_a ag_rf 15 _ (by decide), fun q hq => ?_⟩
              cases hq
              refine ⟨p1, ?_, p3, p4, ?_, p7, p8⟩
              · rw [va_up_ne _ _ (by decide)]; exact p2
              · rw [va_up_self]
                have h9 := stk_top (y := bi true) p5
                rw [List.length_map] at h9
                exact h9
  · refine r_aload_n (pc := 6) dX8_goesOn_6 rfl rfl ?_
    refine mg_76 (pc := 7) hP rfl dX8_goesOn_7 ?_
    refine r_if_ne (pc := 10) (tgt := 15) dX8_goesOn_10 (by decide) (fun h10 => ?_) (fun h10 => ?_)
    · refine r_aload_n (pc := 15) dX8_goesOn_15 rfl rfl ?_
      refine r_dup (pc := 16) dX8_goesOn_16 rfl ?_
      refine mg_76 (pc := 17) hP rfl dX8_goesOn_17 ?_
      refine r_iconst (pc := 20) (v := 1) dX8_goesOn_20 (by decide) ?_
      refine r_isub (pc := 21) dX8_goesOn_21 ?_
      refine mp_76 (pc := 22) hP rfl dX8_goesOn_22 ?_
      refine r_aload_n (pc := 25) dX8_goesOn_25 rfl rfl ?_
      refine r_dup (pc := 26) dX8_goesOn_26 rfl ?_
      refine mg_73 (pc := 27) hP rfl dX8_goesOn_27 ?_
      refine r_iconst (pc := 30) (v := 1) dX8_goesOn_30 (by decide) ?_
      refine r_isub (pc := 31) dX8_goesOn_31 ?_
      refine mp_73 (pc := 32) hP rfl dX8_goesOn_32 ?_
      have hos : 1 ≤ os.length := by
        have hl1 : ¬ rel.length ≤ 1 := fun z => h10 (by rw [p4, show rel.length - 1 = 0 by omega]; rfl)
        have := c4_le os
        omega
      have hnb : ¬ os.head? = some 33 := hb h3
      refine r_aload_n (pc := 35) dX8_goesOn_35 rfl rfl ?_
      refine s_X8_79 (pc := 36) (kc' := 0) (ks' := 0) rfl rfl (am_endFactor hP (os := os.tail) (by rw [upd_s, upd_n _ _ (by decide), p1, List.length_tail]; exact pk_sub (b := 1) hos) (stk_tail p2) (by rw [List.length_tail]; omega)) (mw_o hP) (Nat.le_of_ble_eq_true rfl) (Nat.le_of_ble_eq_true rfl) (Nat.le_of_ble_eq_true rfl) (Nat.le_of_ble_eq_true rfl) (by exact (Nat.le_of_ble_eq_true rfl)) rfl (List.forall_mem_cons.mpr ⟨rfl, fun _ h => nomatch h⟩) rfl dX8_goesOn_36 aw_kt (aw_kv ?_)
      refine r_iconst (pc := 39) (v := 1) dX8_goesOn_39 (by decide) ?_
      refine r_iret (pc := 40) rfl rfl dX8_goesOn_40 ?_
      have hc : c = 41 := h3
      have hl1 : ¬ rel.length ≤ 1 := fun z => h10 (by rw [p4, show rel.length - 1 = 0 by omega]; rfl)
      have e : goesP c os rel = some (endF os.tail, rel.tail) := by simp [goesP, hc, hl1]
      rw [e]
      refine ⟨rfl, _, _, rfl, ag_s (ag_s (ag_s ag_rf 16 _ (by decide)) 14 _ (by decide)) 14 _ (by decide), fun q hq => ?_⟩
      cases hq
      have hne : ∃ l, os = 40 :: l := by
        cases os with
        | nil => exact absurd p7 (by simp [c4]; omega)
        | cons x l =>
          rcases p8 x List.mem_cons_self with rfl | rfl
          · exact ⟨l, rfl⟩
          · exact absurd rfl (hnb : _)
      obtain ⟨l, rfl⟩ := hne
      have h7 : rel.length = c4 l + 2 := by rw [p7]; simp [c4]; omega
      refine ⟨?_, ?_, ?_, ?_, ?_, ?_, ?_⟩
      · rw [upd_s]
      · exact endF_stk p2.2
      · have := endF_len l; simp at p3 ⊢; omega
      · rw [upd_n _ _ (by decide), upd_n _ _ (by decide), upd_s, p4]
        show nI (rel.length - 1) - 1 = nI (rel.tail.length - 1)
        rw [List.length_tail]
        exact pk_sub (b := 1) (by omega)
      · cases rel with
        | nil => simp at h7
        | cons b rl => exact p5.2
      · show rel.tail.length = c4 (endF l) + 1
        rw [List.length_tail, c4_endF, h7]; omega
      · exact fun x hx => p8 x (List.mem_cons_of_mem _ (endF_mem hx))
    · refine r_iconst (pc := 13) (v := 0) dX8_goesOn_13 (by decide) ?_
      refine r_iret (pc := 14) rfl rfl dX8_goesOn_14 ?_
      have hc : c = 41 := h3
      have hl1 : rel.length ≤ 1 := by
        have h9 : sc 16 = nI 0 := h10
        rw [hpS.2.2.2.1] at h9
        have := (nI_eq (by have := hpS.2.2.1; have := hpS.2.2.2.2.2.1; have := c4_le os; omega) (by decide)).mp h9
        omega
      have e : goesP c os rel = none := by simp [goesP, hc, hl1]
      rw [e]
      exact ⟨rfl, _, _, rfl, ag_rf, fun q hq => by cases hq⟩

theorem AW_drop {G : aw_G} {F : aw_F} {kc ks : Nat} {w : List va_E} {pc : Nat} {loc loc' : List (Option Value)} {st : List Value} {Q : aw_R → List va_E → Prop} (k : Nat) (hl : loc.set k none = loc') (kk : AW G F kc ks w pc loc' st Q) : AW G F kc ks w pc loc st Q := by
  refine AW_weak (Nat.le_refl _) (Nat.le_refl _) (fun i v h => ?_) kk
  subst hl
  rw [List.getElem?_set] at h
  split at h
  · split at h <;> cases h
  · exact h
set_option maxRecDepth 100000 in
set_option maxHeartbeats 4000000 in
theorem fe_78 {G : aw_G} {P T : List va_E} {sc0 sc : Nat → Int32} {ar0 ar : Nat → Nat → Int32} (hP : P.length = 12) (due : Bool) (num c v : Int32) (k : Nat) (cs os : List Int32) (rel : List Bool) (hag : ag [14, 16] [13, 15] sc0 ar0 sc ar) (hpS : pS sc ar os rel) (hdu : due = false → os.head? ≠ some 33) (hnn : ¬ (num ≠ -1 ∧ isDig c = true)) (hv : pe (c :: cs) k due num os rel = v)
    (kk : ∀ (due' : Bool) (num' : Int32) (sc' : Nat → Int32) (ar' : Nat → Nat → Int32) (os' : List Int32) (rel' : List Bool), ag [14, 16] [13, 15] sc ar sc' ar' → pS sc' ar' os' rel' → (due' = false → os'.head? ≠ some 33) → pe cs (k + 1) due' num' os' rel' = v → AW G fX8_firstError 0 0 (mw P sc' ar' T) 174 [some (.ref 12), some (.int (bi due')), some (.int num'), some (.int (nI k)), some (.int c)] [] (qm P T (.inl (some (.int v))) (fun sc2 ar2 => ag [14, 16] [13, 15] sc0 ar0 sc2 ar2))) :
    AW G fX8_firstError 0 0 (mw P sc ar T) 78 [some (.ref 12), some (.int (bi due)), some (.int num), some (.int (nI k)), some (.int c)] [] (qm P T (.inl (some (.int v))) (fun sc2 ar2 => ag [14, 16] [13, 15] sc0 ar0 sc2 ar2)) := by
  refine r_iload_n (pc := 78) dX8_firstError_78 rfl rfl ?_
  refine r_if_eq (pc := 79) (tgt := 148) dX8_firstError_79 (by decide) (fun h79 => ?_) (fun h79 => ?_)
  · refine r_iconst (pc := 148) (v := -1) dX8_firstError_148 (by decide) ?_
    refine r_istore_n (pc := 149) dX8_firstError_149 rfl (Nat.le_of_ble_eq_true rfl) rfl ?_
    refine r_aload_n (pc := 150) dX8_firstError_150 rfl rfl ?_
    refine r_iload (pc := 151) dX8_firstError_151 rfl ?_
    refine s_X8_92 (pc := 153) (kc' := 0) (ks' := 0) rfl rfl (am_goesOn hP _ hpS (fun _ => hdu (bi_eq.mp h79))) (mw_o hP) (Nat.le_of_ble_eq_true rfl) (Nat.le_of_ble_eq_true rfl) (Nat.le_of_ble_eq_true rfl) (Nat.le_of_ble_eq_true rfl) (by exact (Nat.le_of_ble_eq_true rfl)) rfl (List.forall_mem_cons.mpr ⟨rfl, (List.forall_mem_cons.mpr ⟨rfl, fun _ h => nomatch h⟩)⟩) rfl dX8_firstError_153 aw_kmt (aw_kmq (fun sc2 ar2 hC => ?_))
    refine r_if_ne (pc := 156) (tgt := 161) dX8_firstError_156 (by decide) (fun h156 => ?_) (fun h156 => ?_)
    · refine r_iload (pc := 161) dX8_firstError_161 rfl ?_
      refine r_bipush (pc := 163) (v := 41) dX8_firstError_163 (by decide) ?_
      refine r_icmp_eq (pc := 165) (tgt := 172) dX8_firstError_165 (by decide) (fun h165 => ?_) (fun h165 => ?_)
      · refine r_iconst (pc := 172) (v := 0) dX8_firstError_172 (by decide) ?_
        refine r_istore_n (pc := 173) dX8_firstError_173 rfl (Nat.le_of_ble_eq_true rfl) rfl ?_
        have hdt : due = false := bi_eq.mp h79
        subst hdt
        obtain ⟨q, hq⟩ := Option.isSome_iff_exists.mp (bi_ne.mp h156)
        have hc : c = 41 := h165
        subst hc
        refine kk false (-1) sc2 ar2 q.1 q.2 hC.1 (hC.2 q hq) (fun _ => ?_) ?_
        · simp only [goesP, if_true] at hq
          split at hq
          · cases hq
          · cases hq; exact endF_hd _
        · rw [← hv, pe, if_neg hnn, if_neg (by decide), hq]
          rfl
      · refine r_iconst (pc := 168) (v := 1) dX8_firstError_168 (by decide) ?_
        refine r_goto (pc := 169) (tgt := 173) dX8_firstError_169 (by decide) ?_
        refine r_istore_n (pc := 173) dX8_firstError_173 rfl (Nat.le_of_ble_eq_true rfl) rfl ?_
        have hdt : due = false := bi_eq.mp h79
        subst hdt
        obtain ⟨q, hq⟩ := Option.isSome_iff_exists.mp (bi_ne.mp h156)
        have hc : ¬ c = 41 := h165
        refine kk true (-1) sc2 ar2 q.1 q.2 hC.1 (hC.2 q hq) (fun z => by cases z) ?_
        rw [← hv, pe, if_neg hnn, if_neg (by decide), hq, decide_eq_true (show c ≠ 41 from hc)]
    · refine r_iload_n (pc := 159) dX8_firstError_159 rfl rfl ?_
      refine r_iret (pc := 160) rfl rfl dX8_firstError_160 ?_
      have hdt : due = false := bi_eq.mp h79
      subst hdt
      have hq : goesP c os rel = none := by
        cases hg : goesP c os rel with
        | none => rfl
        | some z => (rw [hg] at h156; exact absurd (show bi true = 0 from h156) (by decide))
      exact ⟨by rw [← hv, pe, if_neg hnn, if_neg (by decide), hq], sc2, ar2, rfl, ag_tr hag hC.1⟩
  · refine r_iload (pc := 82) dX8_firstError_82 rfl ?_
    refine s_X8_82 (pc := 84) (kc' := 0) (ks' := 0) rfl rfl (am_isDigit _)  (Nat.le_of_ble_eq_true rfl) (Nat.le_of_ble_eq_true rfl) (Nat.le_of_ble_eq_true rfl) (Nat.le_of_ble_eq_true rfl) (by exact (Nat.le_of_ble_eq_true rfl)) rfl (List.forall_mem_cons.mpr ⟨rfl, fun _ h => nomatch h⟩) rfl dX8_firstError_84 aw_kt (aw_kq ?_)
    refine r_if_eq (pc := 87) (tgt := 98) dX8_firstError_87 (by decide) (fun h87 => ?_) (fun h87 => ?_)
    · refine r_iconst (pc := 98) (v := -1) dX8_firstError_98 (by decide) ?_
      refine r_istore_n (pc := 99) dX8_firstError_99 rfl (Nat.le_of_ble_eq_true rfl) rfl ?_
      refine r_iload (pc := 100) dX8_firstError_100 rfl ?_
      refine s_X8_82 (pc := 102) (kc' := 0) (ks' := 0) rfl rfl (am_isDigit _)  (Nat.le_of_ble_eq_true rfl) (Nat.le_of_ble_eq_true rfl) (Nat.le_of_ble_eq_true rfl) (Nat.le_of_ble_eq_true rfl) (by exact (Nat.le_of_ble_eq_true rfl)) rfl (List.forall_mem_cons.mpr ⟨rfl, fun _ h => nomatch h⟩) rfl dX8_firstError_102 aw_kt (aw_kq ?_)
      refine r_if_ne (pc := 105) (tgt := 120) dX8_firstError_105 (by decide) (fun h105 => ?_) (fun h105 => ?_)
      · refine r_iconst (pc := 120) (v := 0) dX8_firstError_120 (by decide) ?_
        refine r_istore_n (pc := 121) dX8_firstError_121 rfl (Nat.le_of_ble_eq_true rfl) rfl ?_
        refine r_iload_n (pc := 122) dX8_firstError_122 rfl rfl ?_
        refine r_if_eq (pc := 123) (tgt := 137) dX8_firstError_123 (by decide) (fun _ => ?_) (fun h => absurd h (by decide))
        refine r_iload_n (pc := 137) dX8_firstError_137 rfl rfl ?_
        refine r_if_ne (pc := 138) (tgt := 174) dX8_firstError_138 (by decide) (fun h => absurd h (by decide)) (fun _ => ?_)
        refine r_aload_n (pc := 141) dX8_firstError_141 rfl rfl ?_
        refine s_X8_79 (pc := 142) (kc' := 0) (ks' := 0) rfl rfl (am_endFactor hP (os := os) hpS.1 hpS.2.1 (Nat.le_trans hpS.2.2.1 (by decide))) (mw_o hP) (Nat.le_of_ble_eq_true rfl) (Nat.le_of_ble_eq_true rfl) (Nat.le_of_ble_eq_true rfl) (Nat.le_of_ble_eq_true rfl) (by exact (Nat.le_of_ble_eq_true rfl)) rfl (List.forall_mem_cons.mpr ⟨rfl, fun _ h => nomatch h⟩) rfl dX8_firstError_142 aw_kt (aw_kv ?_)
        refine r_goto (pc := 145) (tgt := 174) dX8_firstError_145 (by decide) ?_
        have hdt : due = true := bi_ne.mp h79
        subst hdt
        have g87 : isDig c = false := bi_eq.mp h87
        have g105 : isDig c = true := bi_ne.mp h105
        exact absurd (g87.symm.trans g105) (by decide)
      · refine r_iload (pc := 108) dX8_firstError_108 rfl ?_
        refine s_X8_86 (pc := 110) (kc' := 0) (ks' := 0) rfl rfl (am_isLetter _)  (Nat.le_of_ble_eq_true rfl) (Nat.le_of_ble_eq_true rfl) (Nat.le_of_ble_eq_true rfl) (Nat.le_of_ble_eq_true rfl) (by exact (Nat.le_of_ble_eq_true rfl)) rfl (List.forall_mem_cons.mpr ⟨rfl, fun _ h => nomatch h⟩) rfl dX8_firstError_110 aw_kt (aw_kq ?_)
        refine r_if_ne (pc := 113) (tgt := 120) dX8_firstError_113 (by decide) (fun h113 => ?_) (fun h113 => ?_)
        · refine r_iconst (pc := 120) (v := 0) dX8_firstError_120 (by decide) ?_
          refine r_istore_n (pc := 121) dX8_firstError_121 rfl (Nat.le_of_ble_eq_true rfl) rfl ?_
          refine r_iload_n (pc := 122) dX8_firstError_122 rfl rfl ?_
          refine r_if_eq (pc := 123) (tgt := 137) dX8_firstError_123 (by decide) (fun _ => ?_) (fun h => absurd h (by decide))
          refine r_iload_n (pc := 137) dX8_firstError_137 rfl rfl ?_
          refine r_if_ne (pc := 138) (tgt := 174) dX8_firstError_138 (by decide) (fun h => absurd h (by decide)) (fun _ => ?_)
          refine r_aload_n (pc := 141) dX8_firstError_141 rfl rfl ?_
          refine s_X8_79 (pc := 142) (kc' := 0) (ks' := 0) rfl rfl (am_endFactor hP (os := os) hpS.1 hpS.2.1 (Nat.le_trans hpS.2.2.1 (by decide))) (mw_o hP) (Nat.le_of_ble_eq_true rfl) (Nat.le_of_ble_eq_true rfl) (Nat.le_of_ble_eq_true rfl) (Nat.le_of_ble_eq_true rfl) (by exact (Nat.le_of_ble_eq_true rfl)) rfl (List.forall_mem_cons.mpr ⟨rfl, fun _ h => nomatch h⟩) rfl dX8_firstError_142 aw_kt (aw_kv ?_)
          refine r_goto (pc := 145) (tgt := 174) dX8_firstError_145 (by decide) ?_
          have hdt : due = true := bi_ne.mp h79
          subst hdt
          have g87 : isDig c = false := bi_eq.mp h87
          have g105 : isDig c = false := bi_eq.mp h105
          have g113 : isLet c = true := bi_ne.mp h113
          refine kk false (-1) (upd sc 14 (nI (endF os).length)) ar (endF os) rel (ag_s ag_rf 14 _ (by decide)) ⟨upd_s _ _ _, endF_stk hpS.2.1, Nat.le_trans (endF_len _) hpS.2.2.1, (upd_n _ _ (by decide)).trans hpS.2.2.2.1, hpS.2.2.2.2.1, hpS.2.2.2.2.2.1.trans (by rw [c4_endF]), fun x hx => hpS.2.2.2.2.2.2 x (endF_mem hx)⟩ (fun _ => endF_hd os) ?_
          rw [← hv, pe, if_neg hnn, if_pos rfl, if_neg (by rw [g87]; decide), if_pos g113]
        · refine r_iconst (pc := 116) (v := 1) dX8_firstError_116 (by decide) ?_
          refine r_goto (pc := 117) (tgt := 121) dX8_firstError_117 (by decide) ?_
          refine r_istore_n (pc := 121) dX8_firstError_121 rfl (Nat.le_of_ble_eq_true rfl) rfl ?_
          refine r_iload_n (pc := 122) dX8_firstError_122 rfl rfl ?_
          refine r_if_eq (pc := 123) (tgt := 137) dX8_firstError_123 (by decide) (fun h => absurd h (by decide)) (fun _ => ?_)
          refine r_aload_n (pc := 126) dX8_firstError_126 rfl rfl ?_
          refine r_iload (pc := 127) dX8_firstError_127 rfl ?_
          refine s_X8_89 (pc := 129) (kc' := 0) (ks' := 0) rfl rfl (am_opens hP _ hpS) (mw_o hP) (Nat.le_of_ble_eq_true rfl) (Nat.le_of_ble_eq_true rfl) (Nat.le_of_ble_eq_true rfl) (Nat.le_of_ble_eq_true rfl) (by exact (Nat.le_of_ble_eq_true rfl)) rfl (List.forall_mem_cons.mpr ⟨rfl, (List.forall_mem_cons.mpr ⟨rfl, fun _ h => nomatch h⟩)⟩) rfl dX8_firstError_129 aw_kmt (aw_kmq (fun sc2 ar2 hC => ?_))
          refine r_if_ne (pc := 132) (tgt := 137) dX8_firstError_132 (by decide) (fun h132 => ?_) (fun h132 => ?_)
          · refine r_iload_n (pc := 137) dX8_firstError_137 rfl rfl ?_
            refine r_if_ne (pc := 138) (tgt := 174) dX8_firstError_138 (by decide) (fun _ => ?_) (fun h => absurd h (by decide))
            have hdt : due = true := bi_ne.mp h79
            subst hdt
            have g87 : isDig c = false := bi_eq.mp h87
            have g105 : isDig c = false := bi_eq.mp h105
            have g113 : isLet c = false := bi_eq.mp h113
            obtain ⟨q, hq⟩ := Option.isSome_iff_exists.mp (bi_ne.mp h132)
            refine kk true (-1) sc2 ar2 q.1 q.2 hC.1 (hC.2 q hq) (fun z => by cases z) ?_
            rw [← hv, pe, if_neg hnn, if_pos rfl, if_neg (by rw [g87]; decide), if_neg (by rw [g113]; decide), hq]
          · refine r_iload_n (pc := 135) dX8_firstError_135 rfl rfl ?_
            refine r_iret (pc := 136) rfl rfl dX8_firstError_136 ?_
            have hdt : due = true := bi_ne.mp h79
            subst hdt
            have g87 : isDig c = false := bi_eq.mp h87
            have g105 : isDig c = false := bi_eq.mp h105
            have g113 : isLet c = false := bi_eq.mp h113
            first
            | exact absurd (g87.symm.trans g105) (by decide)
            | (have hq : opensP c os rel = none := by
                cases hg : opensP c os rel with
                | none => rfl
                | some z => (rw [hg] at h132; exact absurd (show bi true = 0 from h132) (by decide))
               exact ⟨by rw [← hv, pe, if_neg hnn, if_pos rfl, if_neg (by rw [g87]; decide), if_neg (by rw [g113]; decide), hq], sc2, ar2, rfl, ag_tr hag hC.1⟩)
    · refine r_iload (pc := 90) dX8_firstError_90 rfl ?_
      refine r_bipush (pc := 92) (v := 48) dX8_firstError_92 (by decide) ?_
      refine r_isub (pc := 94) dX8_firstError_94 ?_
      refine r_goto (pc := 95) (tgt := 99) dX8_firstError_95 (by decide) ?_
      refine r_istore_n (pc := 99) dX8_firstError_99 rfl (Nat.le_of_ble_eq_true rfl) rfl ?_
      refine r_iload (pc := 100) dX8_firstError_100 rfl ?_
      refine s_X8_82 (pc := 102) (kc' := 0) (ks' := 0) rfl rfl (am_isDigit _)  (Nat.le_of_ble_eq_true rfl) (Nat.le_of_ble_eq_true rfl) (Nat.le_of_ble_eq_true rfl) (Nat.le_of_ble_eq_true rfl) (by exact (Nat.le_of_ble_eq_true rfl)) rfl (List.forall_mem_cons.mpr ⟨rfl, fun _ h => nomatch h⟩) rfl dX8_firstError_102 aw_kt (aw_kq ?_)
      refine r_if_ne (pc := 105) (tgt := 120) dX8_firstError_105 (by decide) (fun h105 => ?_) (fun h105 => ?_)
      · refine r_iconst (pc := 120) (v := 0) dX8_firstError_120 (by decide) ?_
        refine r_istore_n (pc := 121) dX8_firstError_121 rfl (Nat.le_of_ble_eq_true rfl) rfl ?_
        refine r_iload_n (pc := 122) dX8_firstError_122 rfl rfl ?_
        refine r_if_eq (pc := 123) (tgt := 137) dX8_firstError_123 (by decide) (fun _ => ?_) (fun h => absurd h (by decide))
        refine r_iload_n (pc := 137) dX8_firstError_137 rfl rfl ?_
        refine r_if_ne (pc := 138) (tgt := 174) dX8_firstError_138 (by decide) (fun h => absurd h (by decide)) (fun _ => ?_)
        refine r_aload_n (pc := 141) dX8_firstError_141 rfl rfl ?_
        refine s_X8_79 (pc := 142) (kc' := 0) (ks' := 0) rfl rfl (am_endFactor hP (os := os) hpS.1 hpS.2.1 (Nat.le_trans hpS.2.2.1 (by decide))) (mw_o hP) (Nat.le_of_ble_eq_true rfl) (Nat.le_of_ble_eq_true rfl) (Nat.le_of_ble_eq_true rfl) (Nat.le_of_ble_eq_true rfl) (by exact (Nat.le_of_ble_eq_true rfl)) rfl (List.forall_mem_cons.mpr ⟨rfl, fun _ h => nomatch h⟩) rfl dX8_firstError_142 aw_kt (aw_kv ?_)
        refine r_goto (pc := 145) (tgt := 174) dX8_firstError_145 (by decide) ?_
        have hdt : due = true := bi_ne.mp h79
        subst hdt
        have g87 : isDig c = true := bi_ne.mp h87
        have g105 : isDig c = true := bi_ne.mp h105
        refine kk false (c - 48) (upd sc 14 (nI (endF os).length)) ar (endF os) rel (ag_s ag_rf 14 _ (by decide)) ⟨upd_s _ _ _, endF_stk hpS.2.1, Nat.le_trans (endF_len _) hpS.2.2.1, (upd_n _ _ (by decide)).trans hpS.2.2.2.1, hpS.2.2.2.2.1, hpS.2.2.2.2.2.1.trans (by rw [c4_endF]), fun x hx => hpS.2.2.2.2.2.2 x (endF_mem hx)⟩ (fun _ => endF_hd os) ?_
        rw [← hv, pe, if_neg hnn, if_pos rfl, if_pos g87]
      · refine r_iload (pc := 108) dX8_firstError_108 rfl ?_
        refine s_X8_86 (pc := 110) (kc' := 0) (ks' := 0) rfl rfl (am_isLetter _)  (Nat.le_of_ble_eq_true rfl) (Nat.le_of_ble_eq_true rfl) (Nat.le_of_ble_eq_true rfl) (Nat.le_of_ble_eq_true rfl) (by exact (Nat.le_of_ble_eq_true rfl)) rfl (List.forall_mem_cons.mpr ⟨rfl, fun _ h => nomatch h⟩) rfl dX8_firstError_110 aw_kt (aw_kq ?_)
        refine r_if_ne (pc := 113) (tgt := 120) dX8_firstError_113 (by decide) (fun h113 => ?_) (fun h113 => ?_)
        · refine r_iconst (pc := 120) (v := 0) dX8_firstError_120 (by decide) ?_
          refine r_istore_n (pc := 121) dX8_firstError_121 rfl (Nat.le_of_ble_eq_true rfl) rfl ?_
          refine r_iload_n (pc := 122) dX8_firstError_122 rfl rfl ?_
          refine r_if_eq (pc := 123) (tgt := 137) dX8_firstError_123 (by decide) (fun _ => ?_) (fun h => absurd h (by decide))
          refine r_iload_n (pc := 137) dX8_firstError_137 rfl rfl ?_
          refine r_if_ne (pc := 138) (tgt := 174) dX8_firstError_138 (by decide) (fun h => absurd h (by decide)) (fun _ => ?_)
          refine r_aload_n (pc := 141) dX8_firstError_141 rfl rfl ?_
          refine s_X8_79 (pc := 142) (kc' := 0) (ks' := 0) rfl rfl (am_endFactor hP (os := os) hpS.1 hpS.2.1 (Nat.le_trans hpS.2.2.1 (by decide))) (mw_o hP) (Nat.le_of_ble_eq_true rfl) (Nat.le_of_ble_eq_true rfl) (Nat.le_of_ble_eq_true rfl) (Nat.le_of_ble_eq_true rfl) (by exact (Nat.le_of_ble_eq_true rfl)) rfl (List.forall_mem_cons.mpr ⟨rfl, fun _ h => nomatch h⟩) rfl dX8_firstError_142 aw_kt (aw_kv ?_)
          refine r_goto (pc := 145) (tgt := 174) dX8_firstError_145 (by decide) ?_
          have hdt : due = true := bi_ne.mp h79
          subst hdt
          have g87 : isDig c = true := bi_ne.mp h87
          have g105 : isDig c = false := bi_eq.mp h105
          have g113 : isLet c = true := bi_ne.mp h113
          exact absurd (g87.symm.trans g105) (by decide)
        · refine r_iconst (pc := 116) (v := 1) dX8_firstError_116 (by decide) ?_
          refine r_goto (pc := 117) (tgt := 121) dX8_firstError_117 (by decide) ?_
          refine r_istore_n (pc := 121) dX8_firstError_121 rfl (Nat.le_of_ble_eq_true rfl) rfl ?_
          refine r_iload_n (pc := 122) dX8_firstError_122 rfl rfl ?_
          refine r_if_eq (pc := 123) (tgt := 137) dX8_firstError_123 (by decide) (fun h => absurd h (by decide)) (fun _ => ?_)
          refine r_aload_n (pc := 126) dX8_firstError_126 rfl rfl ?_
          refine r_iload (pc := 127) dX8_firstError_127 rfl ?_
          refine s_X8_89 (pc := 129) (kc' := 0) (ks' := 0) rfl rfl (am_opens hP _ hpS) (mw_o hP) (Nat.le_of_ble_eq_true rfl) (Nat.le_of_ble_eq_true rfl) (Nat.le_of_ble_eq_true rfl) (Nat.le_of_ble_eq_true rfl) (by exact (Nat.le_of_ble_eq_true rfl)) rfl (List.forall_mem_cons.mpr ⟨rfl, (List.forall_mem_cons.mpr ⟨rfl, fun _ h => nomatch h⟩)⟩) rfl dX8_firstError_129 aw_kmt (aw_kmq (fun sc2 ar2 hC => ?_))
          refine r_if_ne (pc := 132) (tgt := 137) dX8_firstError_132 (by decide) (fun h132 => ?_) (fun h132 => ?_)
          · refine r_iload_n (pc := 137) dX8_firstError_137 rfl rfl ?_
            refine r_if_ne (pc := 138) (tgt := 174) dX8_firstError_138 (by decide) (fun _ => ?_) (fun h => absurd h (by decide))
            have hdt : due = true := bi_ne.mp h79
            subst hdt
            have g87 : isDig c = true := bi_ne.mp h87
            have g105 : isDig c = false := bi_eq.mp h105
            have g113 : isLet c = false := bi_eq.mp h113
            exact absurd (g87.symm.trans g105) (by decide)
          · refine r_iload_n (pc := 135) dX8_firstError_135 rfl rfl ?_
            refine r_iret (pc := 136) rfl rfl dX8_firstError_136 ?_
            have hdt : due = true := bi_ne.mp h79
            subst hdt
            have g87 : isDig c = true := bi_ne.mp h87
            have g105 : isDig c = false := bi_eq.mp h105
            have g113 : isLet c = false := bi_eq.mp h113
            first
            | exact absurd (g87.symm.trans g105) (by decide)
            | (have hq : opensP c os rel = none := by
                cases hg : opensP c os rel with
                | none => rfl
                | some z => (rw [hg] at h132; exact absurd (show bi true = 0 from h132) (by decide))
               exact ⟨by rw [← hv, pe, if_neg hnn, if_pos rfl, if_neg (by rw [g87]; decide), if_neg (by rw [g113]; decide), hq], sc2, ar2, rfl, ag_tr hag hC.1⟩)
theorem nI_ge9 {a b : Nat} (h : a < b) (hb : b < 2 ^ 31) : ¬ nI a ≥ nI b := nI_ge h hb
set_option maxRecDepth 100000 in
set_option maxHeartbeats 4000000 in
theorem fe_loop {G : aw_G} {P T : List va_E} {sc0 : Nat → Int32} {ar0 : Nat → Nat → Int32} (hP : P.length = 12) (v : Int32) (tn : Nat) (ht0 : sc0 1 = nI tn) (htn : tn ≤ 40) : ∀ (m k : Nat) (due : Bool) (num : Int32) (os : List Int32) (rel : List Bool) (sc : Nat → Int32) (ar : Nat → Nat → Int32), ag [14, 16] [13, 15] sc0 ar0 sc ar → pS sc ar os rel → (due = false → os.head? ≠ some 33) → k + m = tn → pe (tlist (ar 0) k m) k due num os rel = v → AW G fX8_firstError 0 0 (mw P sc ar T) 23 [some (.ref 12), some (.int (bi due)), some (.int num), some (.int (nI k)), none] [] (qm P T (.inl (some (.int v))) (fun sc2 ar2 => ag [14, 16] [13, 15] sc0 ar0 sc2 ar2)) := by
  intro m
  induction m with
  | zero =>
    intro k due num os rel sc ar hag hpS hdu hkm hv
    have ht : sc 1 = nI tn := (hag.1 1 (by decide)).trans ht0
    refine r_iload_n (pc := 23) dX8_firstError_23 rfl rfl ?_
    refine r_aload_n (pc := 24) dX8_firstError_24 rfl rfl ?_
    refine mg_62 (pc := 25) hP rfl dX8_firstError_25 ?_
    refine r_icmp_ge (pc := 28) (tgt := 180) dX8_firstError_28 (by decide) (fun h28 => ?_) (fun h => absurd (by rw [ht, ← hkm]; exact Int32.le_refl _) h)
    refine r_iload_n (pc := 180) dX8_firstError_180 rfl rfl ?_
    refine r_if_ne (pc := 181) (tgt := 191) dX8_firstError_181 (by decide) (fun h181 => ?_) (fun h181 => ?_)
    · refine r_aload_n (pc := 191) dX8_firstError_191 rfl rfl ?_
      refine mg_62 (pc := 192) hP rfl dX8_firstError_192 ?_
      refine r_goto (pc := 195) (tgt := 199) dX8_firstError_195 (by decide) ?_
      refine r_iret (pc := 199) rfl rfl dX8_firstError_199 ?_
      refine ⟨?_, sc, ar, rfl, hag⟩
      rw [← hv]
      show _ = Sum.inl (some (Value.int (pe [] k due num os rel)))
      rw [pe, if_pos (Or.inl (bi_ne.mp h181)), ht, show tn = k by omega]
    · refine r_aload_n (pc := 184) dX8_firstError_184 rfl rfl ?_
      refine mg_76 (pc := 185) hP rfl dX8_firstError_185 ?_
      refine r_if_le (pc := 188) (tgt := 198) dX8_firstError_188 (by decide) (fun h188 => ?_) (fun h188 => ?_)
      · refine r_iconst (pc := 198) (v := -1) dX8_firstError_198 (by decide) ?_
        refine r_iret (pc := 199) rfl rfl dX8_firstError_199 ?_
        refine ⟨?_, sc, ar, rfl, hag⟩
        rw [← hv]
        show _ = Sum.inl (some (Value.int (pe [] k due num os rel)))
        rw [pe, if_neg (by
          rintro (z | z)
          · exact absurd (bi_eq.mp h181) (by rw [z]; decide)
          · have := hpS.2.2.1; have := hpS.2.2.2.2.2.1; have := c4_le os
            exact nI_nle (n := rel.length - 1) (by omega) (by omega) (by rw [← hpS.2.2.2.1]; exact h188))]
      · refine r_aload_n (pc := 191) dX8_firstError_191 rfl rfl ?_
        refine mg_62 (pc := 192) hP rfl dX8_firstError_192 ?_
        refine r_goto (pc := 195) (tgt := 199) dX8_firstError_195 (by decide) ?_
        refine r_iret (pc := 199) rfl rfl dX8_firstError_199 ?_
        refine ⟨?_, sc, ar, rfl, hag⟩
        rw [← hv]
        show _ = Sum.inl (some (Value.int (pe [] k due num os rel)))
        rw [pe, if_pos (Or.inr (by
          rcases Nat.lt_or_ge 1 rel.length with z | z
          · exact z
          · exact absurd (by rw [hpS.2.2.2.1, show rel.length - 1 = 0 by omega]; decide) h188)), ht, show tn = k by omega]
  | succ m ih =>
    intro k due num os rel sc ar hag hpS hdu hkm hv
    have ht : sc 1 = nI tn := (hag.1 1 (by decide)).trans ht0
    have nxt : ∀ (due' : Bool) (num' : Int32) (sc' : Nat → Int32) (ar' : Nat → Nat → Int32) (os' : List Int32) (rel' : List Bool), ag [14, 16] [13, 15] sc0 ar0 sc' ar' → pS sc' ar' os' rel' → (due' = false → os'.head? ≠ some 33) → pe (tlist (ar' 0) (k + 1) m) (k + 1) due' num' os' rel' = v → AW G fX8_firstError 0 0 (mw P sc' ar' T) 174 [some (.ref 12), some (.int (bi due')), some (.int num'), some (.int (nI k)), some (.int (ar 0 k))] [] (qm P T (.inl (some (.int v))) (fun sc2 ar2 => ag [14, 16] [13, 15] sc0 ar0 sc2 ar2)) := by
      intro due' num' sc' ar' os' rel' hag' hpS' hdu' hv'
      refine r_iincK (pc := 174) (k9 := 1) dX8_firstError_174 (by decide) rfl (Nat.le_of_ble_eq_true rfl) rfl ?_
      refine r_goto (pc := 177) (tgt := 23) dX8_firstError_177 (by decide) ?_
      refine AW_drop 4 rfl ?_
      rw [nI_1]
      exact ih (k + 1) due' num' os' rel' sc' ar' hag' hpS' hdu' (by omega) hv'
    refine r_iload_n (pc := 23) dX8_firstError_23 rfl rfl ?_
    refine r_aload_n (pc := 24) dX8_firstError_24 rfl rfl ?_
    refine mg_62 (pc := 25) hP rfl dX8_firstError_25 ?_
    refine r_icmp_ge (pc := 28) (tgt := 180) dX8_firstError_28 (by decide) (fun h => absurd h (by rw [ht]; exact nI_ge9 (by omega) (by omega))) (fun h28 => ?_)
    refine r_aload_n (pc := 31) dX8_firstError_31 rfl rfl ?_
    refine mg_7 (pc := 32) hP rfl dX8_firstError_32 ?_
    refine r_iload_n (pc := 35) dX8_firstError_35 rfl rfl ?_
    refine mln_0 (pc := 36) (k) hP ⟨rfl, by omega⟩ dX8_firstError_36 ?_
    refine r_istore (pc := 37) dX8_firstError_37 (Nat.le_of_ble_eq_true rfl) rfl ?_
    refine r_iload_n (pc := 39) dX8_firstError_39 rfl rfl ?_
    refine r_iconst (pc := 40) (v := -1) dX8_firstError_40 (by decide) ?_
    refine r_icmp_eq (pc := 41) (tgt := 78) dX8_firstError_41 (by decide) (fun h41 => ?_) (fun h41 => ?_)
    · exact fe_78 hP due num (ar 0 k) v k (tlist (ar 0) (k + 1) m) os rel hag hpS hdu (fun z => z.1 h41) hv (fun due2 num2 sc2 ar2 os2 rel2 hag2 hpS2 hdu2 hv2 => nxt due2 num2 sc2 ar2 os2 rel2 (ag_tr hag hag2) hpS2 hdu2 (by rw [hag2.2 0 (by decide)]; exact hv2))
    · refine r_iload (pc := 44) dX8_firstError_44 rfl ?_
      refine s_X8_82 (pc := 46) (kc' := 0) (ks' := 0) rfl rfl (am_isDigit _)  (Nat.le_of_ble_eq_true rfl) (Nat.le_of_ble_eq_true rfl) (Nat.le_of_ble_eq_true rfl) (Nat.le_of_ble_eq_true rfl) (by exact (Nat.le_of_ble_eq_true rfl)) rfl (List.forall_mem_cons.mpr ⟨rfl, fun _ h => nomatch h⟩) rfl dX8_firstError_46 aw_kt (aw_kq ?_)
      refine r_if_eq (pc := 49) (tgt := 78) dX8_firstError_49 (by decide) (fun h49 => ?_) (fun h49 => ?_)
      · exact fe_78 hP due num (ar 0 k) v k (tlist (ar 0) (k + 1) m) os rel hag hpS hdu (fun z => absurd z.2 (by rw [show isDig (ar 0 k) = false from bi_eq.mp h49]; decide)) hv (fun due2 num2 sc2 ar2 os2 rel2 hag2 hpS2 hdu2 hv2 => nxt due2 num2 sc2 ar2 os2 rel2 (ag_tr hag hag2) hpS2 hdu2 (by rw [hag2.2 0 (by decide)]; exact hv2))
      · refine r_iload_n (pc := 52) dX8_firstError_52 rfl rfl ?_
        refine r_if_eq (pc := 53) (tgt := 62) dX8_firstError_53 (by decide) (fun h53 => ?_) (fun h53 => ?_)
        · refine r_iload_n (pc := 62) dX8_firstError_62 rfl rfl ?_
          refine r_iret (pc := 63) rfl rfl dX8_firstError_63 ?_
          have gd : isDig (ar 0 k) = true := bi_ne.mp h49
          refine ⟨?_, sc, ar, rfl, hag⟩
          rw [← hv]
          show _ = Sum.inl (some (Value.int (pe (ar 0 k :: tlist (ar 0) (k + 1) m) k due num os rel)))
          rw [pe, if_pos ⟨h41, gd⟩, if_pos (Or.inl h53)]
        · refine r_iload_n (pc := 56) dX8_firstError_56 rfl rfl ?_
          refine r_bipush (pc := 57) (v := 99) dX8_firstError_57 (by decide) ?_
          refine r_icmp_le (pc := 59) (tgt := 64) dX8_firstError_59 (by decide) (fun h59 => ?_) (fun h59 => ?_)
          · refine r_bipush (pc := 64) (v := 10) dX8_firstError_64 (by decide) ?_
            refine r_iload_n (pc := 66) dX8_firstError_66 rfl rfl ?_
            refine r_imul (pc := 67) dX8_firstError_67 ?_
            refine r_iload (pc := 68) dX8_firstError_68 rfl ?_
            refine r_iadd (pc := 70) dX8_firstError_70 ?_
            refine r_bipush (pc := 71) (v := 48) dX8_firstError_71 (by decide) ?_
            refine r_isub (pc := 73) dX8_firstError_73 ?_
            refine r_istore_n (pc := 74) dX8_firstError_74 rfl (Nat.le_of_ble_eq_true rfl) rfl ?_
            refine r_goto (pc := 75) (tgt := 174) dX8_firstError_75 (by decide) ?_
            have gd : isDig (ar 0 k) = true := bi_ne.mp h49
            refine nxt due (10 * num + ar 0 k - 48) sc ar os rel hag hpS hdu ?_
            rw [← hv]
            show _ = pe (ar 0 k :: tlist (ar 0) (k + 1) m) k due num os rel
            rw [pe, if_pos ⟨h41, gd⟩, if_neg (by rintro (z | z); exact h53 z; exact (Int32.not_lt.mpr h59) z)]
          · refine r_iload_n (pc := 62) dX8_firstError_62 rfl rfl ?_
            refine r_iret (pc := 63) rfl rfl dX8_firstError_63 ?_
            have gd : isDig (ar 0 k) = true := bi_ne.mp h49
            refine ⟨?_, sc, ar, rfl, hag⟩
            rw [← hv]
            show _ = Sum.inl (some (Value.int (pe (ar 0 k :: tlist (ar 0) (k + 1) m) k due num os rel)))
            rw [pe, if_pos ⟨h41, gd⟩, if_pos (Or.inr (Int32.not_le.mp h59))]
set_option maxRecDepth 100000 in
set_option maxHeartbeats 4000000 in
theorem am_firstError {G : aw_G} {P T : List va_E} {sc : Nat → Int32} {ar : Nat → Nat → Int32} (hP : P.length = 12) (tn : Nat) (ht : sc 1 = nI tn) (htn : tn ≤ 40) : AM G fX8_firstError [.ref 12] (mw P sc ar T) (qm P T (.inl (some (.int (pe (tlist (ar 0) 0 tn) 0 true (-1) [] [false])))) (fun sc2 ar2 => ag [14, 16] [13, 15] sc ar sc2 ar2)) := by
  refine AM_of (by decide) rfl rfl (Nat.le_of_ble_eq_true rfl) ?_
  show AW G fX8_firstError 0 0 (mw P sc ar T) 0 [some (.ref 12), none, none, none, none] [] _
  refine r_iconst (pc := 0) (v := 1) dX8_firstError_0 (by decide) ?_
  refine r_istore_n (pc := 1) dX8_firstError_1 rfl (Nat.le_of_ble_eq_true rfl) rfl ?_
  refine r_iconst (pc := 2) (v := -1) dX8_firstError_2 (by decide) ?_
  refine r_istore_n (pc := 3) dX8_firstError_3 rfl (Nat.le_of_ble_eq_true rfl) rfl ?_
  refine r_aload_n (pc := 4) dX8_firstError_4 rfl rfl ?_
  refine r_iconst (pc := 5) (v := 0) dX8_firstError_5 (by decide) ?_
  refine mp_73 (pc := 6) hP rfl dX8_firstError_6 ?_
  refine r_aload_n (pc := 9) dX8_firstError_9 rfl rfl ?_
  refine r_iconst (pc := 10) (v := 0) dX8_firstError_10 (by decide) ?_
  refine mp_76 (pc := 11) hP rfl dX8_firstError_11 ?_
  refine r_aload_n (pc := 14) dX8_firstError_14 rfl rfl ?_
  refine mg_41 (pc := 15) hP rfl dX8_firstError_15 ?_
  refine r_iconst (pc := 18) (v := 0) dX8_firstError_18 (by decide) ?_
  refine r_iconst (pc := 19) (v := 0) dX8_firstError_19 (by decide) ?_
  refine msn_15 (pc := 20) (0) hP ⟨rfl, by decide⟩ dX8_firstError_20 ?_
  refine r_iconst (pc := 21) (v := 0) dX8_firstError_21 (by decide) ?_
  refine r_istore_n (pc := 22) dX8_firstError_22 rfl (Nat.le_of_ble_eq_true rfl) rfl ?_
  refine fe_loop hP _ tn ht htn tn 0 true (-1) [] [false] (upd (upd sc 14 0) 16 0) (va_up ar 15 (upd (ar 15) 0 (vp_nar .boolean 0))) (ag_a (ag_s (ag_s ag_rf 14 _ (by decide)) 16 _ (by decide)) 15 _ (by decide)) ⟨?_, trivial, Nat.zero_le _, ?_, ?_, rfl, fun x hx => by cases hx⟩ (fun z => by cases z) (Nat.zero_add _) rfl
  · rw [upd_n _ _ (by decide), upd_s]; rfl
  · rw [upd_s]; rfl
  · rw [va_up_self]; exact ⟨upd_s _ _ _, trivial⟩

end M2
