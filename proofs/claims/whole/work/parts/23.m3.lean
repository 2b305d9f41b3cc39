/-! ===== the reference: it lays a row ===== -/
section M3
set_option maxRecDepth 100000 in
set_option maxHeartbeats 4000000 in
theorem am_rank {G : aw_G} {w : List va_E} (c : Int32) : AM G fX8_rank [.int c] w (qx (.inl (some (.int (rk c)))) w) := by
  refine AM_of (by decide) rfl rfl (Nat.le_of_ble_eq_true rfl) ?_
  show AW G fX8_rank 0 0 w 0 [some (.int c)] [] _
  refine r_iload_n (pc := 0) dX8_rank_0 rfl rfl ?_
  refine r_bipush (pc := 1) (v := 42) dX8_rank_1 (by decide) ?_
  refine r_icmp_ne (pc := 3) (tgt := 10) dX8_rank_3 (by decide) (fun h3 => ?_) (fun h3 => ?_)
  · refine r_iload_n (pc := 10) dX8_rank_10 rfl rfl ?_
    refine r_bipush (pc := 11) (v := 43) dX8_rank_11 (by decide) ?_
    refine r_icmp_eq (pc := 13) (tgt := 22) dX8_rank_13 (by decide) (fun h13 => ?_) (fun h13 => ?_)
    · refine r_iconst (pc := 22) (v := 4) dX8_rank_22 (by decide) ?_
      refine r_goto (pc := 23) (tgt := 69) dX8_rank_23 (by decide) ?_
      refine r_iret (pc := 69) rfl rfl dX8_rank_69 ?_
      refine ⟨?_, rfl⟩
      simp_all [rk]
    · refine r_iload_n (pc := 16) dX8_rank_16 rfl rfl ?_
      refine r_bipush (pc := 17) (v := 45) dX8_rank_17 (by decide) ?_
      refine r_icmp_ne (pc := 19) (tgt := 26) dX8_rank_19 (by decide) (fun h19 => ?_) (fun h19 => ?_)
      · refine r_iload_n (pc := 26) dX8_rank_26 rfl rfl ?_
        refine r_bipush (pc := 27) (v := 60) dX8_rank_27 (by decide) ?_
        refine r_icmp_eq (pc := 29) (tgt := 44) dX8_rank_29 (by decide) (fun h29 => ?_) (fun h29 => ?_)
        · refine r_iconst (pc := 44) (v := 3) dX8_rank_44 (by decide) ?_
          refine r_goto (pc := 45) (tgt := 69) dX8_rank_45 (by decide) ?_
          refine r_iret (pc := 69) rfl rfl dX8_rank_69 ?_
          refine ⟨?_, rfl⟩
          simp_all [rk]
        · refine r_iload_n (pc := 32) dX8_rank_32 rfl rfl ?_
          refine r_bipush (pc := 33) (v := 61) dX8_rank_33 (by decide) ?_
          refine r_icmp_eq (pc := 35) (tgt := 44) dX8_rank_35 (by decide) (fun h35 => ?_) (fun h35 => ?_)
          · refine r_iconst (pc := 44) (v := 3) dX8_rank_44 (by decide) ?_
            refine r_goto (pc := 45) (tgt := 69) dX8_rank_45 (by decide) ?_
            refine r_iret (pc := 69) rfl rfl dX8_rank_69 ?_
            refine ⟨?_, rfl⟩
            simp_all [rk]
          · refine r_iload_n (pc := 38) dX8_rank_38 rfl rfl ?_
            refine r_bipush (pc := 39) (v := 62) dX8_rank_39 (by decide) ?_
            refine r_icmp_ne (pc := 41) (tgt := 48) dX8_rank_41 (by decide) (fun h41 => ?_) (fun h41 => ?_)
            · refine r_iload_n (pc := 48) dX8_rank_48 rfl rfl ?_
              refine r_bipush (pc := 49) (v := 38) dX8_rank_49 (by decide) ?_
              refine r_icmp_ne (pc := 51) (tgt := 58) dX8_rank_51 (by decide) (fun h51 => ?_) (fun h51 => ?_)
              · refine r_iload_n (pc := 58) dX8_rank_58 rfl rfl ?_
                refine r_bipush (pc := 59) (v := 124) dX8_rank_59 (by decide) ?_
                refine r_icmp_ne (pc := 61) (tgt := 68) dX8_rank_61 (by decide) (fun h61 => ?_) (fun h61 => ?_)
                · refine r_iconst (pc := 68) (v := 0) dX8_rank_68 (by decide) ?_
                  refine r_iret (pc := 69) rfl rfl dX8_rank_69 ?_
                  refine ⟨?_, rfl⟩
                  simp_all [rk]
                · refine r_iconst (pc := 64) (v := 1) dX8_rank_64 (by decide) ?_
                  refine r_goto (pc := 65) (tgt := 69) dX8_rank_65 (by decide) ?_
                  refine r_iret (pc := 69) rfl rfl dX8_rank_69 ?_
                  refine ⟨?_, rfl⟩
                  simp_all [rk]
              · refine r_iconst (pc := 54) (v := 2) dX8_rank_54 (by decide) ?_
                refine r_goto (pc := 55) (tgt := 69) dX8_rank_55 (by decide) ?_
                refine r_iret (pc := 69) rfl rfl dX8_rank_69 ?_
                refine ⟨?_, rfl⟩
                simp_all [rk]
            · refine r_iconst (pc := 44) (v := 3) dX8_rank_44 (by decide) ?_
              refine r_goto (pc := 45) (tgt := 69) dX8_rank_45 (by decide) ?_
              refine r_iret (pc := 69) rfl rfl dX8_rank_69 ?_
              refine ⟨?_, rfl⟩
              simp_all [rk]
      · refine r_iconst (pc := 22) (v := 4) dX8_rank_22 (by decide) ?_
        refine r_goto (pc := 23) (tgt := 69) dX8_rank_23 (by decide) ?_
        refine r_iret (pc := 69) rfl rfl dX8_rank_69 ?_
        refine ⟨?_, rfl⟩
        simp_all [rk]
  · refine r_iconst (pc := 6) (v := 5) dX8_rank_6 (by decide) ?_
    refine r_goto (pc := 7) (tgt := 69) dX8_rank_7 (by decide) ?_
    refine r_iret (pc := 69) rfl rfl dX8_rank_69 ?_
    refine ⟨?_, rfl⟩
    simp_all [rk]

set_option maxRecDepth 100000 in
set_option maxHeartbeats 4000000 in
theorem lp_layBangs {G : aw_G} {P T : List va_E} {sc0 : Nat → Int32} {ar0 : Nat → Nat → Int32} (hP : P.length = 12) (q : List Int32 × List Int32) : ∀ (s r : List Int32) (sc : Nat → Int32) (ar : Nat → Nat → Int32), ag [18, 20] [17, 19] sc0 ar0 sc ar → lS sc ar r s → lyB r s = q → AW G fX8_layBangs 0 0 (mw P sc ar T) 0 [some (.ref 12)] [] (qm P T (.inl none) (fun sc2 ar2 => ag [18, 20] [17, 19] sc0 ar0 sc2 ar2 ∧ lS sc2 ar2 q.1 q.2)) := by
  intro s
  induction s with
  | nil =>
    intro r sc ar hag h hq
    have h14 := h.2.2.1
    refine r_aload_n (pc := 0) dX8_layBangs_0 rfl rfl ?_
    refine mg_102 (pc := 1) hP rfl dX8_layBangs_1 ?_
    refine r_if_le (pc := 4) (tgt := 43) dX8_layBangs_4 (by decide) (fun h4 => ?_) (fun h => absurd (by rw [h14]; decide) h)
    refine r_vret (pc := 43) rfl dX8_layBangs_43 ?_
    exact ⟨rfl, sc, ar, rfl, hag, by rw [← hq]; exact h⟩
  | cons x l ih =>
    intro r sc ar hag h hq
    have h14 := h.2.2.1
    have h99 := h.2.2.2.2
    refine r_aload_n (pc := 0) dX8_layBangs_0 rfl rfl ?_
    refine mg_102 (pc := 1) hP rfl dX8_layBangs_1 ?_
    refine r_if_le (pc := 4) (tgt := 43) dX8_layBangs_4 (by decide) (fun h => absurd h (by rw [h14]; exact nI_nle (by simp) (by have := h99; simp at this ⊢; omega))) (fun h4 => ?_)
    refine r_aload_n (pc := 7) dX8_layBangs_7 rfl rfl ?_
    refine mg_47 (pc := 8) hP rfl dX8_layBangs_8 ?_
    refine r_aload_n (pc := 11) dX8_layBangs_11 rfl rfl ?_
    refine mg_102 (pc := 12) hP rfl dX8_layBangs_12 ?_
    refine r_iconst (pc := 15) (v := 1) dX8_layBangs_15 (by decide) ?_
    refine r_isub (pc := 16) dX8_layBangs_16 ?_
    refine mln_19 (pc := 17) (l.length) hP ⟨by rw [h.2.2.1]; exact pk_sub (b := 1) (Nat.succ_le_succ (Nat.zero_le _)), by have := h.2.2.2.2; simp at this; omega⟩ dX8_layBangs_17 ?_
    refine r_bipush (pc := 18) (v := 33) dX8_layBangs_18 (by decide) ?_
    refine r_icmp_ne (pc := 20) (tgt := 43) dX8_layBangs_20 (by decide) (fun h20 => ?_) (fun h20 => ?_)
    · refine r_vret (pc := 43) rfl dX8_layBangs_43 ?_
      have hx : ¬ x = 33 := by rw [← h.2.2.2.1.1]; exact h20
      refine ⟨rfl, sc, ar, rfl, hag, ?_⟩
      rw [← hq, lyB, if_neg hx]
      exact h
    · refine r_aload_n (pc := 23) dX8_layBangs_23 rfl rfl ?_
      refine r_dup (pc := 24) dX8_layBangs_24 rfl ?_
      refine mg_102 (pc := 25) hP rfl dX8_layBangs_25 ?_
      refine r_iconst (pc := 28) (v := 1) dX8_layBangs_28 (by decide) ?_
      refine r_isub (pc := 29) dX8_layBangs_29 ?_
      refine mp_102 (pc := 30) hP rfl dX8_layBangs_30 ?_
      refine r_aload_n (pc := 33) dX8_layBangs_33 rfl rfl ?_
      refine r_sipush (pc := 34) (v := 2033) dX8_layBangs_34 (by decide) ?_
      refine s_X8_105 (pc := 37) (kc' := 0) (ks' := 0) rfl rfl (am_lay hP _ r.length ⟨by rw [upd_n _ _ (by decide)]; exact h.1, by have := h.2.2.2.2; simp at this; omega⟩) (mw_o hP) (Nat.le_of_ble_eq_true rfl) (Nat.le_of_ble_eq_true rfl) (Nat.le_of_ble_eq_true rfl) (Nat.le_of_ble_eq_true rfl) (by exact (Nat.le_of_ble_eq_true rfl)) rfl (List.forall_mem_cons.mpr ⟨rfl, (List.forall_mem_cons.mpr ⟨rfl, fun _ h => nomatch h⟩)⟩) rfl dX8_layBangs_37 aw_kt (aw_kv ?_)
      refine r_goto (pc := 40) (tgt := 0) dX8_layBangs_40 (by decide) ?_
      have h14 := h.2.2.1
      have h99 := h.2.2.2.2
      have hx : x = 33 := by rw [← h.2.2.2.1.1]; exact h20
      have h9 := lS_lay (x := 2033) (lS_pop h) (by have := h.2.2.2.2; simp at this; omega)
      refine ih (r ++ [2033]) _ _ (ag_a (ag_s (ag_s hag 20 _ (by decide)) 18 _ (by decide)) 17 _ (by decide)) h9 ?_
      rw [← hq, lyB, if_pos hx]
theorem am_layBangs {G : aw_G} {P T : List va_E} {sc : Nat → Int32} {ar : Nat → Nat → Int32} (hP : P.length = 12) {r s : List Int32} (h : lS sc ar r s) : AM G fX8_layBangs [.ref 12] (mw P sc ar T) (qm P T (.inl none) (fun sc2 ar2 => ag [18, 20] [17, 19] sc ar sc2 ar2 ∧ lS sc2 ar2 (lyB r s).1 (lyB r s).2)) := by
  refine AM_of (by decide) rfl rfl (Nat.le_of_ble_eq_true rfl) ?_
  exact lp_layBangs hP _ s r sc ar ag_rf h rfl
set_option maxRecDepth 100000 in
set_option maxHeartbeats 4000000 in
theorem lp_laySigns {G : aw_G} {P T : List va_E} {sc0 : Nat → Int32} {ar0 : Nat → Nat → Int32} (hP : P.length = 12) (k : Int32) (q : List Int32 × List Int32) : ∀ (s r : List Int32) (sc : Nat → Int32) (ar : Nat → Nat → Int32), ag [18, 20] [17, 19] sc0 ar0 sc ar → lS sc ar r s → lyS k r s = q → AW G fX8_laySigns 0 0 (mw P sc ar T) 0 [some (.ref 12), some (.int k)] [] (qm P T (.inl none) (fun sc2 ar2 => ag [18, 20] [17, 19] sc0 ar0 sc2 ar2 ∧ lS sc2 ar2 q.1 q.2)) := by
  intro s
  induction s with
  | nil =>
    intro r sc ar hag h hq
    have h14 := h.2.2.1
    refine r_aload_n (pc := 0) dX8_laySigns_0 rfl rfl ?_
    refine mg_102 (pc := 1) hP rfl dX8_laySigns_1 ?_
    refine r_if_le (pc := 4) (tgt := 71) dX8_laySigns_4 (by decide) (fun h4 => ?_) (fun h => absurd (by rw [h14]; decide) h)
    refine r_vret (pc := 71) rfl dX8_laySigns_71 ?_
    exact ⟨rfl, sc, ar, rfl, hag, by rw [← hq]; exact h⟩
  | cons x l ih =>
    intro r sc ar hag h hq
    have h14 := h.2.2.1
    have h99 := h.2.2.2.2
    refine r_aload_n (pc := 0) dX8_laySigns_0 rfl rfl ?_
    refine mg_102 (pc := 1) hP rfl dX8_laySigns_1 ?_
    refine r_if_le (pc := 4) (tgt := 71) dX8_laySigns_4 (by decide) (fun h => absurd h (by rw [h14]; exact nI_nle (by simp) (by have := h99; simp at this ⊢; omega))) (fun h4 => ?_)
    refine r_aload_n (pc := 7) dX8_laySigns_7 rfl rfl ?_
    refine mg_47 (pc := 8) hP rfl dX8_laySigns_8 ?_
    refine r_aload_n (pc := 11) dX8_laySigns_11 rfl rfl ?_
    refine mg_102 (pc := 12) hP rfl dX8_laySigns_12 ?_
    refine r_iconst (pc := 15) (v := 1) dX8_laySigns_15 (by decide) ?_
    refine r_isub (pc := 16) dX8_laySigns_16 ?_
    refine mln_19 (pc := 17) (l.length) hP ⟨by rw [h.2.2.1]; exact pk_sub (b := 1) (Nat.succ_le_succ (Nat.zero_le _)), by have := h.2.2.2.2; simp at this; omega⟩ dX8_laySigns_17 ?_
    refine r_bipush (pc := 18) (v := 40) dX8_laySigns_18 (by decide) ?_
    refine r_icmp_eq (pc := 20) (tgt := 71) dX8_laySigns_20 (by decide) (fun h20 => ?_) (fun h20 => ?_)
    · refine r_vret (pc := 71) rfl dX8_laySigns_71 ?_
      have hx : x = 40 ∨ rk x < k := by rw [← h.2.2.2.1.1]; exact Or.inl h20
      refine ⟨rfl, sc, ar, rfl, hag, ?_⟩
      rw [← hq, lyS, if_pos hx]
      exact h
    · refine r_aload_n (pc := 23) dX8_laySigns_23 rfl rfl ?_
      refine mg_47 (pc := 24) hP rfl dX8_laySigns_24 ?_
      refine r_aload_n (pc := 27) dX8_laySigns_27 rfl rfl ?_
      refine mg_102 (pc := 28) hP rfl dX8_laySigns_28 ?_
      refine r_iconst (pc := 31) (v := 1) dX8_laySigns_31 (by decide) ?_
      refine r_isub (pc := 32) dX8_laySigns_32 ?_
      refine mln_19 (pc := 33) (l.length) hP ⟨by rw [h.2.2.1]; exact pk_sub (b := 1) (Nat.succ_le_succ (Nat.zero_le _)), by have := h.2.2.2.2; simp at this; omega⟩ dX8_laySigns_33 ?_
      refine s_X8_109 (pc := 34) (kc' := 0) (ks' := 0) rfl rfl (am_rank _)  (Nat.le_of_ble_eq_true rfl) (Nat.le_of_ble_eq_true rfl) (Nat.le_of_ble_eq_true rfl) (Nat.le_of_ble_eq_true rfl) (by exact (Nat.le_of_ble_eq_true rfl)) rfl (List.forall_mem_cons.mpr ⟨rfl, fun _ h => nomatch h⟩) rfl dX8_laySigns_34 aw_kt (aw_kq ?_)
      refine r_iload_n (pc := 37) dX8_laySigns_37 rfl rfl ?_
      refine r_icmp_lt (pc := 38) (tgt := 71) dX8_laySigns_38 (by decide) (fun h38 => ?_) (fun h38 => ?_)
      · refine r_vret (pc := 71) rfl dX8_laySigns_71 ?_
        have hx : x = 40 ∨ rk x < k := by rw [← h.2.2.2.1.1]; exact Or.inr h38
        refine ⟨rfl, sc, ar, rfl, hag, ?_⟩
        rw [← hq, lyS, if_pos hx]
        exact h
      · refine r_aload_n (pc := 41) dX8_laySigns_41 rfl rfl ?_
        refine r_dup (pc := 42) dX8_laySigns_42 rfl ?_
        refine mg_102 (pc := 43) hP rfl dX8_laySigns_43 ?_
        refine r_iconst (pc := 46) (v := 1) dX8_laySigns_46 (by decide) ?_
        refine r_isub (pc := 47) dX8_laySigns_47 ?_
        refine mp_102 (pc := 48) hP rfl dX8_laySigns_48 ?_
        refine r_aload_n (pc := 51) dX8_laySigns_51 rfl rfl ?_
        refine r_sipush (pc := 52) (v := 2000) dX8_laySigns_52 (by decide) ?_
        refine r_aload_n (pc := 55) dX8_laySigns_55 rfl rfl ?_
        refine mg_47 (pc := 56) hP rfl dX8_laySigns_56 ?_
        refine r_aload_n (pc := 59) dX8_laySigns_59 rfl rfl ?_
        refine mg_102 (pc := 60) hP rfl dX8_laySigns_60 ?_
        refine mln_19 (pc := 63) (l.length) hP ⟨by rw [upd_s, h.2.2.1]; exact pk_sub (b := 1) (Nat.succ_le_succ (Nat.zero_le _)), by have := h.2.2.2.2; simp at this; omega⟩ dX8_laySigns_63 ?_
        refine r_iadd (pc := 64) dX8_laySigns_64 ?_
        refine s_X8_105 (pc := 65) (kc' := 0) (ks' := 0) rfl rfl (am_lay hP _ r.length ⟨by rw [upd_n _ _ (by decide)]; exact h.1, by have := h.2.2.2.2; simp at this; omega⟩) (mw_o hP) (Nat.le_of_ble_eq_true rfl) (Nat.le_of_ble_eq_true rfl) (Nat.le_of_ble_eq_true rfl) (Nat.le_of_ble_eq_true rfl) (by exact (Nat.le_of_ble_eq_true rfl)) rfl (List.forall_mem_cons.mpr ⟨rfl, (List.forall_mem_cons.mpr ⟨rfl, fun _ h => nomatch h⟩)⟩) rfl dX8_laySigns_65 aw_kt (aw_kv ?_)
        refine r_goto (pc := 68) (tgt := 0) dX8_laySigns_68 (by decide) ?_
        have h14 := h.2.2.1
        have h99 := h.2.2.2.2
        have hx : ¬ (x = 40 ∨ rk x < k) := by
          rw [← h.2.2.2.1.1]
          rintro (z | z)
          · exact h20 z
          · exact h38 z
        have hv : 2000 + ar 19 l.length = 2000 + x := by rw [h.2.2.2.1.1]
        have h9 := lS_lay (x := 2000 + x) (lS_pop h) (by have := h.2.2.2.2; simp at this; omega)
        rw [hv]
        refine ih (r ++ [2000 + x]) _ _ (ag_a (ag_s (ag_s hag 20 _ (by decide)) 18 _ (by decide)) 17 _ (by decide)) h9 ?_
        rw [← hq, lyS, if_neg hx]
theorem am_laySigns {G : aw_G} {P T : List va_E} {sc : Nat → Int32} {ar : Nat → Nat → Int32} (hP : P.length = 12) (k : Int32) {r s : List Int32} (h : lS sc ar r s) : AM G fX8_laySigns [.ref 12, .int k] (mw P sc ar T) (qm P T (.inl none) (fun sc2 ar2 => ag [18, 20] [17, 19] sc ar sc2 ar2 ∧ lS sc2 ar2 (lyS k r s).1 (lyS k r s).2)) := by
  refine AM_of (by decide) rfl rfl (Nat.le_of_ble_eq_true rfl) ?_
  exact lp_laySigns hP k _ s r sc ar ag_rf h rfl
set_option maxRecDepth 100000 in
set_option maxHeartbeats 4000000 in
theorem lr_num {G : aw_G} {P T : List va_E} {sc : Nat → Int32} {ar : Nat → Nat → Int32} (hP : P.length = 12) {tn : Nat} (ht : sc 1 = nI tn) (htn : tn ≤ 40) {Q : aw_R → List va_E → Prop} (c : Int32) : ∀ (m k : Nat) (n : Int32), k + m = tn → (∀ (k2 m2 : Nat) (num : Int32), k ≤ k2 → k2 + m2 = tn → rdN n (tlist (ar 0) k m) = (num, tlist (ar 0) k2 m2) → AW G fX8_layRow 0 0 (mw P sc ar T) 83 [some (.ref 12), some (.int (nI k2)), some (.int c), some (.int num)] [] Q) → AW G fX8_layRow 0 0 (mw P sc ar T) 42 [some (.ref 12), some (.int (nI k)), some (.int c), some (.int n)] [] Q := by
  intro m
  induction m with
  | zero =>
    intro k n hkm kk
    refine r_iload_n (pc := 42) dX8_layRow_42 rfl rfl ?_
    refine r_aload_n (pc := 43) dX8_layRow_43 rfl rfl ?_
    refine mg_62 (pc := 44) hP rfl dX8_layRow_44 ?_
    refine r_icmp_ge (pc := 47) (tgt := 83) dX8_layRow_47 (by decide) (fun h47 => ?_) (fun h => absurd (by rw [ht, ← hkm]; exact Int32.le_refl _) h)
    exact kk k 0 n (Nat.le_refl _) hkm rfl
  | succ m ih =>
    intro k n hkm kk
    refine r_iload_n (pc := 42) dX8_layRow_42 rfl rfl ?_
    refine r_aload_n (pc := 43) dX8_layRow_43 rfl rfl ?_
    refine mg_62 (pc := 44) hP rfl dX8_layRow_44 ?_
    refine r_icmp_ge (pc := 47) (tgt := 83) dX8_layRow_47 (by decide) (fun h => absurd h (by rw [ht]; exact nI_ge9 (by omega) (by omega))) (fun h47 => ?_)
    refine r_aload_n (pc := 50) dX8_layRow_50 rfl rfl ?_
    refine mg_7 (pc := 51) hP rfl dX8_layRow_51 ?_
    refine r_iload_n (pc := 54) dX8_layRow_54 rfl rfl ?_
    refine mln_0 (pc := 55) (k) hP ⟨rfl, by omega⟩ dX8_layRow_55 ?_
    refine s_X8_82 (pc := 56) (kc' := 0) (ks' := 0) rfl rfl (am_isDigit _)  (Nat.le_of_ble_eq_true rfl) (Nat.le_of_ble_eq_true rfl) (Nat.le_of_ble_eq_true rfl) (Nat.le_of_ble_eq_true rfl) (by exact (Nat.le_of_ble_eq_true rfl)) rfl (List.forall_mem_cons.mpr ⟨rfl, fun _ h => nomatch h⟩) rfl dX8_layRow_56 aw_kt (aw_kq ?_)
    refine r_if_eq (pc := 59) (tgt := 83) dX8_layRow_59 (by decide) (fun h59 => ?_) (fun h59 => ?_)
    · have gd : ¬ isDig (ar 0 k) = true := by rw [show isDig (ar 0 k) = false from bi_eq.mp h59]; decide
      refine kk k (m + 1) n (Nat.le_refl _) hkm ?_
      show rdN n (ar 0 k :: tlist (ar 0) (k + 1) m) = _
      rw [rdN, if_neg gd]
      rfl
    · refine r_bipush (pc := 62) (v := 10) dX8_layRow_62 (by decide) ?_
      refine r_iload_n (pc := 64) dX8_layRow_64 rfl rfl ?_
      refine r_imul (pc := 65) dX8_layRow_65 ?_
      refine r_aload_n (pc := 66) dX8_layRow_66 rfl rfl ?_
      refine mg_7 (pc := 67) hP rfl dX8_layRow_67 ?_
      refine r_iload_n (pc := 70) dX8_layRow_70 rfl rfl ?_
      refine mln_0 (pc := 71) (k) hP ⟨rfl, by omega⟩ dX8_layRow_71 ?_
      refine r_iadd (pc := 72) dX8_layRow_72 ?_
      refine r_bipush (pc := 73) (v := 48) dX8_layRow_73 (by decide) ?_
      refine r_isub (pc := 75) dX8_layRow_75 ?_
      refine r_istore_n (pc := 76) dX8_layRow_76 rfl (Nat.le_of_ble_eq_true rfl) rfl ?_
      refine r_iincK (pc := 77) (k9 := 1) dX8_layRow_77 (by decide) rfl (Nat.le_of_ble_eq_true rfl) rfl ?_
      refine r_goto (pc := 80) (tgt := 42) dX8_layRow_80 (by decide) ?_
      have gd : isDig (ar 0 k) = true := bi_ne.mp h59
      rw [nI_1]
      refine ih (k + 1) (10 * n + ar 0 k - 48) (by omega) (fun k2 m2 num2 e1 e2 e3 => kk k2 m2 num2 (by omega) e2 ?_)
      show rdN n (ar 0 k :: tlist (ar 0) (k + 1) m) = _
      rw [rdN, if_pos gd]
      exact e3
set_option maxRecDepth 100000 in
set_option maxHeartbeats 4000000 in
theorem lr_loop {G : aw_G} {P T : List va_E} {sc0 : Nat → Int32} {ar0 : Nat → Nat → Int32} (hP : P.length = 12) (row : List Int32) (tn : Nat) (ht0 : sc0 1 = nI tn) (htn : tn ≤ 40) : ∀ (n k m : Nat) (r s : List Int32) (sc : Nat → Int32) (ar : Nat → Nat → Int32), ag [18, 20] [17, 19] sc0 ar0 sc ar → lS sc ar r s → r.length + s.length ≤ k → k + m = tn → lr n (tlist (ar 0) k m) r s = some row → AW G fX8_layRow 0 0 (mw P sc ar T) 12 [some (.ref 12), some (.int (nI k)), none, none] [] (qm P T (.inl none) (fun sc2 ar2 => ag [18, 20] [17, 19] sc0 ar0 sc2 ar2 ∧ sc2 18 = nI row.length ∧ arow (ar2 17) row ∧ row.length ≤ 40)) := by
  have fin : ∀ (k : Nat) (r s : List Int32) (sc : Nat → Int32) (ar : Nat → Nat → Int32), ag [18, 20] [17, 19] sc0 ar0 sc ar → lS sc ar r s → k + 0 = tn → some (lyS 0 r s).1 = some row → AW G fX8_layRow 0 0 (mw P sc ar T) 12 [some (.ref 12), some (.int (nI k)), none, none] [] (qm P T (.inl none) (fun sc2 ar2 => ag [18, 20] [17, 19] sc0 ar0 sc2 ar2 ∧ sc2 18 = nI row.length ∧ arow (ar2 17) row ∧ row.length ≤ 40)) := by
    intro k r s sc ar hag h hkm hv
    have ht : sc 1 = nI tn := (hag.1 1 (by decide)).trans ht0
    refine r_iload_n (pc := 12) dX8_layRow_12 rfl rfl ?_
    refine r_aload_n (pc := 13) dX8_layRow_13 rfl rfl ?_
    refine mg_62 (pc := 14) hP rfl dX8_layRow_14 ?_
    refine r_icmp_ge (pc := 17) (tgt := 187) dX8_layRow_17 (by decide) (fun h17 => ?_) (fun h => absurd (by rw [ht, ← hkm]; exact Int32.le_refl _) h)
    refine r_aload_n (pc := 187) dX8_layRow_187 rfl rfl ?_
    refine r_iconst (pc := 188) (v := 0) dX8_layRow_188 (by decide) ?_
    refine s_X8_116 (pc := 189) (kc' := 0) (ks' := 0) rfl rfl (am_laySigns hP _ h) (mw_o hP) (Nat.le_of_ble_eq_true rfl) (Nat.le_of_ble_eq_true rfl) (Nat.le_of_ble_eq_true rfl) (Nat.le_of_ble_eq_true rfl) (by exact (Nat.le_of_ble_eq_true rfl)) rfl (List.forall_mem_cons.mpr ⟨rfl, (List.forall_mem_cons.mpr ⟨rfl, fun _ h => nomatch h⟩)⟩) rfl dX8_layRow_189 aw_kmt (aw_kmv (fun sc1 ar1 hC1 => ?_))
    refine r_vret (pc := 192) rfl dX8_layRow_192 ?_
    have h9 : some (lyS 0 r s).1 = some row := hv
    cases h9
    exact ⟨rfl, sc1, ar1, rfl, ag_tr hag hC1.1, hC1.2.1, hC1.2.2.1, by have := hC1.2.2.2.2.2; omega⟩
  intro n
  induction n with
  | zero =>
    intro k m r s sc ar hag h hrs hkm hv
    cases m with
    | zero => exact fin k r s sc ar hag h hkm hv
    | succ m => cases hv
  | succ n ih =>
    intro k m r s sc ar hag h hrs hkm hv
    have ht : sc 1 = nI tn := (hag.1 1 (by decide)).trans ht0
    cases m with
    | zero => exact fin k r s sc ar hag h hkm hv
    | succ m =>
      refine r_iload_n (pc := 12) dX8_layRow_12 rfl rfl ?_
      refine r_aload_n (pc := 13) dX8_layRow_13 rfl rfl ?_
      refine mg_62 (pc := 14) hP rfl dX8_layRow_14 ?_
      refine r_icmp_ge (pc := 17) (tgt := 187) dX8_layRow_17 (by decide) (fun h => absurd h (by rw [ht]; exact nI_ge9 (by omega) (by omega))) (fun h17 => ?_)
      refine r_aload_n (pc := 20) dX8_layRow_20 rfl rfl ?_
      refine mg_7 (pc := 21) hP rfl dX8_layRow_21 ?_
      refine r_iload_n (pc := 24) dX8_layRow_24 rfl rfl ?_
      refine mln_0 (pc := 25) (k) hP ⟨rfl, by omega⟩ dX8_layRow_25 ?_
      refine r_istore_n (pc := 26) dX8_layRow_26 rfl (Nat.le_of_ble_eq_true rfl) rfl ?_
      refine r_iincK (pc := 27) (k9 := 1) dX8_layRow_27 (by decide) rfl (Nat.le_of_ble_eq_true rfl) rfl ?_
      refine r_iload_n (pc := 30) dX8_layRow_30 rfl rfl ?_
      refine s_X8_82 (pc := 31) (kc' := 0) (ks' := 0) rfl rfl (am_isDigit _)  (Nat.le_of_ble_eq_true rfl) (Nat.le_of_ble_eq_true rfl) (Nat.le_of_ble_eq_true rfl) (Nat.le_of_ble_eq_true rfl) (by exact (Nat.le_of_ble_eq_true rfl)) rfl (List.forall_mem_cons.mpr ⟨rfl, fun _ h => nomatch h⟩) rfl dX8_layRow_31 aw_kt (aw_kq ?_)
      refine r_if_eq (pc := 34) (tgt := 95) dX8_layRow_34 (by decide) (fun h34 => ?_) (fun h34 => ?_)
      · refine r_iload_n (pc := 95) dX8_layRow_95 rfl rfl ?_
        refine s_X8_86 (pc := 96) (kc' := 0) (ks' := 0) rfl rfl (am_isLetter _)  (Nat.le_of_ble_eq_true rfl) (Nat.le_of_ble_eq_true rfl) (Nat.le_of_ble_eq_true rfl) (Nat.le_of_ble_eq_true rfl) (by exact (Nat.le_of_ble_eq_true rfl)) rfl (List.forall_mem_cons.mpr ⟨rfl, fun _ h => nomatch h⟩) rfl dX8_layRow_96 aw_kt (aw_kq ?_)
        refine r_if_eq (pc := 99) (tgt := 121) dX8_layRow_99 (by decide) (fun h99 => ?_) (fun h99 => ?_)
        · refine r_iload_n (pc := 121) dX8_layRow_121 rfl rfl ?_
          refine r_bipush (pc := 122) (v := 41) dX8_layRow_122 (by decide) ?_
          refine r_icmp_ne (pc := 124) (tgt := 149) dX8_layRow_124 (by decide) (fun h124 => ?_) (fun h124 => ?_)
          · refine r_iload_n (pc := 149) dX8_layRow_149 rfl rfl ?_
            refine s_X8_109 (pc := 150) (kc' := 0) (ks' := 0) rfl rfl (am_rank _)  (Nat.le_of_ble_eq_true rfl) (Nat.le_of_ble_eq_true rfl) (Nat.le_of_ble_eq_true rfl) (Nat.le_of_ble_eq_true rfl) (by exact (Nat.le_of_ble_eq_true rfl)) rfl (List.forall_mem_cons.mpr ⟨rfl, fun _ h => nomatch h⟩) rfl dX8_layRow_150 aw_kt (aw_kq ?_)
            refine r_if_le (pc := 153) (tgt := 164) dX8_layRow_153 (by decide) (fun h153 => ?_) (fun h153 => ?_)
            · refine r_aload_n (pc := 164) dX8_layRow_164 rfl rfl ?_
              refine mg_47 (pc := 165) hP rfl dX8_layRow_165 ?_
              refine r_aload_n (pc := 168) dX8_layRow_168 rfl rfl ?_
              refine mg_102 (pc := 169) hP rfl dX8_layRow_169 ?_
              refine r_iload_n (pc := 172) dX8_layRow_172 rfl rfl ?_
              refine msn_19 (pc := 173) (s.length) hP ⟨h.2.2.1, by omega⟩ dX8_layRow_173 ?_
              refine r_aload_n (pc := 174) dX8_layRow_174 rfl rfl ?_
              refine r_dup (pc := 175) dX8_layRow_175 rfl ?_
              refine mg_102 (pc := 176) hP rfl dX8_layRow_176 ?_
              refine r_iconst (pc := 179) (v := 1) dX8_layRow_179 (by decide) ?_
              refine r_iadd (pc := 180) dX8_layRow_180 ?_
              refine mp_102 (pc := 181) hP rfl dX8_layRow_181 ?_
              refine r_goto (pc := 184) (tgt := 12) dX8_layRow_184 (by decide) ?_
              have gd : ¬ isDig (ar 0 k) = true := by rw [show isDig (ar 0 k) = false from bi_eq.mp h34]; decide
              have gl : ¬ isLet (ar 0 k) = true := by rw [show isLet (ar 0 k) = false from bi_eq.mp h99]; decide
              have hc41 : ¬ ar 0 k = 41 := h124
              have hr : ¬ 0 < rk (ar 0 k) := Int32.not_lt.mpr h153
              have hag2 := ag_a (ag_s hag 20 (sc 20 + 1) (by decide)) 19 (upd (ar 19) s.length (ar 0 k)) (by decide)
              refine AW_drop 2 rfl ?_
              rw [nI_1]
              refine ih (k + 1) m _ _ _ _ hag2 (lS_push h (by omega)) (by simp; omega) (by omega) ?_
              rw [va_up_ne _ _ (by decide), ← hv]
              show _ = lr (n + 1) (ar 0 k :: tlist (ar 0) (k + 1) m) r s
              rw [lr, if_neg gd, if_neg gl, if_neg hc41, if_neg hr]
            · refine r_aload_n (pc := 156) dX8_layRow_156 rfl rfl ?_
              refine r_iload_n (pc := 157) dX8_layRow_157 rfl rfl ?_
              refine s_X8_109 (pc := 158) (kc' := 0) (ks' := 0) rfl rfl (am_rank _)  (Nat.le_of_ble_eq_true rfl) (Nat.le_of_ble_eq_true rfl) (Nat.le_of_ble_eq_true rfl) (Nat.le_of_ble_eq_true rfl) (by exact (Nat.le_of_ble_eq_true rfl)) rfl (List.forall_mem_cons.mpr ⟨rfl, fun _ h => nomatch h⟩) rfl dX8_layRow_158 aw_kt (aw_kq ?_)
              refine s_X8_116 (pc := 161) (kc' := 0) (ks' := 0) rfl rfl (am_laySigns hP _ h) (mw_o hP) (Nat.le_of_ble_eq_true rfl) (Nat.le_of_ble_eq_true rfl) (Nat.le_of_ble_eq_true rfl) (Nat.le_of_ble_eq_true rfl) (by exact (Nat.le_of_ble_eq_true rfl)) rfl (List.forall_mem_cons.mpr ⟨rfl, (List.forall_mem_cons.mpr ⟨rfl, fun _ h => nomatch h⟩)⟩) rfl dX8_layRow_161 aw_kmt (aw_kmv (fun sc1 ar1 hC1 => ?_))
              refine r_aload_n (pc := 164) dX8_layRow_164 rfl rfl ?_
              refine mg_47 (pc := 165) hP rfl dX8_layRow_165 ?_
              refine r_aload_n (pc := 168) dX8_layRow_168 rfl rfl ?_
              refine mg_102 (pc := 169) hP rfl dX8_layRow_169 ?_
              refine r_iload_n (pc := 172) dX8_layRow_172 rfl rfl ?_
              refine msn_19 (pc := 173) ((lyS (rk (ar 0 k)) r s).2.length) hP ⟨hC1.2.2.2.1, by have := lyS_len (rk (ar 0 k)) s r; omega⟩ dX8_layRow_173 ?_
              refine r_aload_n (pc := 174) dX8_layRow_174 rfl rfl ?_
              refine r_dup (pc := 175) dX8_layRow_175 rfl ?_
              refine mg_102 (pc := 176) hP rfl dX8_layRow_176 ?_
              refine r_iconst (pc := 179) (v := 1) dX8_layRow_179 (by decide) ?_
              refine r_iadd (pc := 180) dX8_layRow_180 ?_
              refine mp_102 (pc := 181) hP rfl dX8_layRow_181 ?_
              refine r_goto (pc := 184) (tgt := 12) dX8_layRow_184 (by decide) ?_
              have gd : ¬ isDig (ar 0 k) = true := by rw [show isDig (ar 0 k) = false from bi_eq.mp h34]; decide
              have gl : ¬ isLet (ar 0 k) = true := by rw [show isLet (ar 0 k) = false from bi_eq.mp h99]; decide
              have hc41 : ¬ ar 0 k = 41 := h124
              have hr : 0 < rk (ar 0 k) := Int32.not_le.mp h153
              have hag1 := ag_tr hag hC1.1
              have hag0 : ar1 0 = ar 0 := (hag1.2 0 (by decide)).trans (hag.2 0 (by decide)).symm
              have hag2 := ag_a (ag_s hag1 20 (sc1 20 + 1) (by decide)) 19 (upd (ar1 19) (lyS (rk (ar 0 k)) r s).2.length (ar 0 k)) (by decide)
              refine AW_drop 2 rfl ?_
              rw [nI_1]
              have hls := lyS_len (rk (ar 0 k)) s r
              refine ih (k + 1) m _ _ _ _ hag2 (lS_push hC1.2 (by omega)) (by simp; omega) (by omega) ?_
              rw [va_up_ne _ _ (by decide), hag0, ← hv]
              show _ = lr (n + 1) (ar 0 k :: tlist (ar 0) (k + 1) m) r s
              rw [lr, if_neg gd, if_neg gl, if_neg hc41, if_pos hr]
          · refine r_aload_n (pc := 127) dX8_layRow_127 rfl rfl ?_
            refine r_iconst (pc := 128) (v := 0) dX8_layRow_128 (by decide) ?_
            refine s_X8_116 (pc := 129) (kc' := 0) (ks' := 0) rfl rfl (am_laySigns hP _ h) (mw_o hP) (Nat.le_of_ble_eq_true rfl) (Nat.le_of_ble_eq_true rfl) (Nat.le_of_ble_eq_true rfl) (Nat.le_of_ble_eq_true rfl) (by exact (Nat.le_of_ble_eq_true rfl)) rfl (List.forall_mem_cons.mpr ⟨rfl, (List.forall_mem_cons.mpr ⟨rfl, fun _ h => nomatch h⟩)⟩) rfl dX8_layRow_129 aw_kmt (aw_kmv (fun sc1 ar1 hC1 => ?_))
            have gd : ¬ isDig (ar 0 k) = true := by rw [show isDig (ar 0 k) = false from bi_eq.mp h34]; decide
            have gl : ¬ isLet (ar 0 k) = true := by rw [show isLet (ar 0 k) = false from bi_eq.mp h99]; decide
            have hc41 : ar 0 k = 41 := h124
            obtain ⟨x1, s1, hs1⟩ : ∃ x1 s1, (lyS 0 r s).2 = x1 :: s1 := by
              cases hz : (lyS 0 r s).2 with
              | nil =>
                have h9 : lr (n + 1) (ar 0 k :: tlist (ar 0) (k + 1) m) r s = some row := hv
                rw [lr, if_neg gd, if_neg gl, if_pos hc41, hz] at h9
                cases h9
              | cons x1 s1 => exact ⟨x1, s1, rfl⟩
            refine r_aload_n (pc := 132) dX8_layRow_132 rfl rfl ?_
            refine r_dup (pc := 133) dX8_layRow_133 rfl ?_
            refine mg_102 (pc := 134) hP rfl dX8_layRow_134 ?_
            refine r_iconst (pc := 137) (v := 1) dX8_layRow_137 (by decide) ?_
            refine r_isub (pc := 138) dX8_layRow_138 ?_
            refine mp_102 (pc := 139) hP rfl dX8_layRow_139 ?_
            have hL : lS (upd sc1 20 (sc1 20 - 1)) ar1 (lyS 0 r s).1 s1 := lS_pop (by rw [← hs1]; exact hC1.2)
            refine r_aload_n (pc := 142) dX8_layRow_142 rfl rfl ?_
            refine s_X8_113 (pc := 143) (kc' := 0) (ks' := 0) rfl rfl (am_layBangs hP hL) (mw_o hP) (Nat.le_of_ble_eq_true rfl) (Nat.le_of_ble_eq_true rfl) (Nat.le_of_ble_eq_true rfl) (Nat.le_of_ble_eq_true rfl) (by exact (Nat.le_of_ble_eq_true rfl)) rfl (List.forall_mem_cons.mpr ⟨rfl, fun _ h => nomatch h⟩) rfl dX8_layRow_143 aw_kmt (aw_kmv (fun sc2 ar2 hC => ?_))
            refine r_goto (pc := 146) (tgt := 184) dX8_layRow_146 (by decide) ?_
            refine r_goto (pc := 184) (tgt := 12) dX8_layRow_184 (by decide) ?_
            have gd : ¬ isDig (ar 0 k) = true := by rw [show isDig (ar 0 k) = false from bi_eq.mp h34]; decide
            have gl : ¬ isLet (ar 0 k) = true := by rw [show isLet (ar 0 k) = false from bi_eq.mp h99]; decide
            have hag2 := ag_tr (ag_s (ag_tr hag hC1.1) 20 _ (by decide)) hC.1
            have hag0 : ar2 0 = ar 0 := (hag2.2 0 (by decide)).trans (hag.2 0 (by decide)).symm
            refine AW_drop 2 rfl ?_
            rw [nI_1]
            refine ih (k + 1) m _ _ sc2 ar2 hag2 hC.2 (by rw [lyB_len]; have := lyS_len 0 s r; rw [hs1] at this; simp at this; omega) (by omega) ?_
            rw [hag0]
            rw [← hv]
            show _ = lr (n + 1) (ar 0 k :: tlist (ar 0) (k + 1) m) r s
            rw [lr, if_neg gd, if_neg gl, if_pos hc41, hs1]
        · refine r_aload_n (pc := 102) dX8_layRow_102 rfl rfl ?_
          refine r_sipush (pc := 103) (v := 1000) dX8_layRow_103 (by decide) ?_
          refine r_iload_n (pc := 106) dX8_layRow_106 rfl rfl ?_
          refine r_iadd (pc := 107) dX8_layRow_107 ?_
          refine r_bipush (pc := 108) (v := 97) dX8_layRow_108 (by decide) ?_
          refine r_isub (pc := 110) dX8_layRow_110 ?_
          refine s_X8_105 (pc := 111) (kc' := 0) (ks' := 0) rfl rfl (am_lay hP _ r.length ⟨h.1, by omega⟩) (mw_o hP) (Nat.le_of_ble_eq_true rfl) (Nat.le_of_ble_eq_true rfl) (Nat.le_of_ble_eq_true rfl) (Nat.le_of_ble_eq_true rfl) (by exact (Nat.le_of_ble_eq_true rfl)) rfl (List.forall_mem_cons.mpr ⟨rfl, (List.forall_mem_cons.mpr ⟨rfl, fun _ h => nomatch h⟩)⟩) rfl dX8_layRow_111 aw_kt (aw_kv ?_)
          have hL := lS_lay (x := 1000 + ar 0 k - 97) h (by omega)
          refine r_aload_n (pc := 114) dX8_layRow_114 rfl rfl ?_
          refine s_X8_113 (pc := 115) (kc' := 0) (ks' := 0) rfl rfl (am_layBangs hP hL) (mw_o hP) (Nat.le_of_ble_eq_true rfl) (Nat.le_of_ble_eq_true rfl) (Nat.le_of_ble_eq_true rfl) (Nat.le_of_ble_eq_true rfl) (by exact (Nat.le_of_ble_eq_true rfl)) rfl (List.forall_mem_cons.mpr ⟨rfl, fun _ h => nomatch h⟩) rfl dX8_layRow_115 aw_kmt (aw_kmv (fun sc2 ar2 hC => ?_))
          refine r_goto (pc := 118) (tgt := 184) dX8_layRow_118 (by decide) ?_
          refine r_goto (pc := 184) (tgt := 12) dX8_layRow_184 (by decide) ?_
          have gd : ¬ isDig (ar 0 k) = true := by rw [show isDig (ar 0 k) = false from bi_eq.mp h34]; decide
          have gl : isLet (ar 0 k) = true := bi_ne.mp h99
          have hag2 := ag_tr (ag_a (ag_s hag 18 _ (by decide)) 17 _ (by decide)) hC.1
          have hag0 : ar2 0 = ar 0 := (hag2.2 0 (by decide)).trans (hag.2 0 (by decide)).symm
          refine AW_drop 2 rfl ?_
          rw [nI_1]
          refine ih (k + 1) m _ _ sc2 ar2 hag2 hC.2 (by rw [lyB_len]; simp; omega) (by omega) ?_
          rw [hag0]
          rw [← hv]
          show _ = lr (n + 1) (ar 0 k :: tlist (ar 0) (k + 1) m) r s
          rw [lr, if_neg gd, if_pos gl]
      · refine r_iload_n (pc := 37) dX8_layRow_37 rfl rfl ?_
        refine r_bipush (pc := 38) (v := 48) dX8_layRow_38 (by decide) ?_
        refine r_isub (pc := 40) dX8_layRow_40 ?_
        refine r_istore_n (pc := 41) dX8_layRow_41 rfl (Nat.le_of_ble_eq_true rfl) rfl ?_
        have gd : isDig (ar 0 k) = true := bi_ne.mp h34
        rw [nI_1]
        refine lr_num hP ht htn (ar 0 k) m (k + 1) (ar 0 k - 48) (by omega) (fun k2 m2 num e1 e2 e3 => ?_)
        refine r_aload_n (pc := 83) dX8_layRow_83 rfl rfl ?_
        refine r_iload_n (pc := 84) dX8_layRow_84 rfl rfl ?_
        refine s_X8_105 (pc := 85) (kc' := 0) (ks' := 0) rfl rfl (am_lay hP _ r.length ⟨h.1, by omega⟩) (mw_o hP) (Nat.le_of_ble_eq_true rfl) (Nat.le_of_ble_eq_true rfl) (Nat.le_of_ble_eq_true rfl) (Nat.le_of_ble_eq_true rfl) (by exact (Nat.le_of_ble_eq_true rfl)) rfl (List.forall_mem_cons.mpr ⟨rfl, (List.forall_mem_cons.mpr ⟨rfl, fun _ h => nomatch h⟩)⟩) rfl dX8_layRow_85 aw_kt (aw_kv ?_)
        have hL := lS_lay (x := num) h (by omega)
        refine r_aload_n (pc := 88) dX8_layRow_88 rfl rfl ?_
        refine s_X8_113 (pc := 89) (kc' := 0) (ks' := 0) rfl rfl (am_layBangs hP hL) (mw_o hP) (Nat.le_of_ble_eq_true rfl) (Nat.le_of_ble_eq_true rfl) (Nat.le_of_ble_eq_true rfl) (Nat.le_of_ble_eq_true rfl) (by exact (Nat.le_of_ble_eq_true rfl)) rfl (List.forall_mem_cons.mpr ⟨rfl, fun _ h => nomatch h⟩) rfl dX8_layRow_89 aw_kmt (aw_kmv (fun sc2 ar2 hC => ?_))
        refine r_goto (pc := 92) (tgt := 184) dX8_layRow_92 (by decide) ?_
        refine r_goto (pc := 184) (tgt := 12) dX8_layRow_184 (by decide) ?_
        have hag2 := ag_tr (ag_a (ag_s hag 18 _ (by decide)) 17 _ (by decide)) hC.1
        have hag0 : ar2 0 = ar 0 := (hag2.2 0 (by decide)).trans (hag.2 0 (by decide)).symm
        refine AW_drop 2 rfl ?_
        refine AW_drop 3 rfl ?_
        refine ih k2 m2 _ _ sc2 ar2 hag2 hC.2 (by rw [lyB_len]; simp; omega) e2 ?_
        rw [hag0, ← hv]
        show _ = lr (n + 1) (ar 0 k :: tlist (ar 0) (k + 1) m) r s
        rw [lr, if_pos gd, e3]
set_option maxRecDepth 100000 in
set_option maxHeartbeats 4000000 in
theorem am_layRow {G : aw_G} {P T : List va_E} {sc : Nat → Int32} {ar : Nat → Nat → Int32} (hP : P.length = 12) {tn n : Nat} (ht : sc 1 = nI tn) (htn : tn ≤ 40) {row : List Int32} (hrow : lr n (tlist (ar 0) 0 tn) [] [] = some row) : AM G fX8_layRow [.ref 12] (mw P sc ar T) (qm P T (.inl none) (fun sc2 ar2 => ag [18, 20] [17, 19] sc ar sc2 ar2 ∧ sc2 18 = nI row.length ∧ arow (ar2 17) row ∧ row.length ≤ 40)) := by
  refine AM_of (by decide) rfl rfl (Nat.le_of_ble_eq_true rfl) ?_
  show AW G fX8_layRow 0 0 (mw P sc ar T) 0 [some (.ref 12), none, none, none] [] _
  refine r_aload_n (pc := 0) dX8_layRow_0 rfl rfl ?_
  refine r_iconst (pc := 1) (v := 0) dX8_layRow_1 (by decide) ?_
  refine mp_99 (pc := 2) hP rfl dX8_layRow_2 ?_
  refine r_aload_n (pc := 5) dX8_layRow_5 rfl rfl ?_
  refine r_iconst (pc := 6) (v := 0) dX8_layRow_6 (by decide) ?_
  refine mp_102 (pc := 7) hP rfl dX8_layRow_7 ?_
  refine r_iconst (pc := 10) (v := 0) dX8_layRow_10 (by decide) ?_
  refine r_istore_n (pc := 11) dX8_layRow_11 rfl (Nat.le_of_ble_eq_true rfl) rfl ?_
  refine lr_loop hP row tn ht htn n 0 tn [] [] _ _ (ag_s (ag_s ag_rf 18 _ (by decide)) 20 _ (by decide)) ⟨?_, (fun i x hx => by cases hx), ?_, trivial, Nat.zero_le _⟩ (Nat.le_refl _) (Nat.zero_add _) hrow
  · rw [upd_n _ _ (by decide), upd_s]; rfl
  · rw [upd_s]; rfl

end M3
