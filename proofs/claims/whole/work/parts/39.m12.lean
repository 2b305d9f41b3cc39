/-! ===== the reference: plain; its constructor ===== -/
section M12
set_option maxRecDepth 100000 in
set_option maxHeartbeats 4000000 in
theorem am_plainX {G : aw_G} {P T : List va_E} {sc : Nat → Int32} {ar : Nat → Nat → Int32} (hP : P.length = 12) (x f p : Int32) (hb : ¬ ((0 ≤ x ∧ x ≤ sc 5 - 1) ∧ (0 ≤ f ∧ f ≤ 9) ∧ 0 ≤ p)) : AM G fX8_plain [.ref 12, .int x, .int f, .int p] (mw P sc ar T) (qe P T (fun v sc2 ar2 => sc2 = upd sc 12 1 ∧ ar2 = ar)) := by
  refine AM_of (by decide) rfl rfl (Nat.le_of_ble_eq_true rfl) ?_
  show AW G fX8_plain 0 0 (mw P sc ar T) 0 [some (.ref 12), some (.int x), some (.int f), some (.int p), none] [] _
  refine r_aload_n (pc := 0) dX8_plain_0 rfl rfl ?_
  refine r_aload_n (pc := 1) dX8_plain_1 rfl rfl ?_
  refine r_iload_n (pc := 2) dX8_plain_2 rfl rfl ?_
  refine s_X8_172 (pc := 3) (kc' := 0) (ks' := 0) rfl rfl (am_isVersion hP _) (mw_o hP) (Nat.le_of_ble_eq_true rfl) (Nat.le_of_ble_eq_true rfl) (Nat.le_of_ble_eq_true rfl) (Nat.le_of_ble_eq_true rfl) (by exact (Nat.le_of_ble_eq_true rfl)) rfl (List.forall_mem_cons.mpr ⟨rfl, (List.forall_mem_cons.mpr ⟨rfl, fun _ h => nomatch h⟩)⟩) rfl dX8_plain_3 aw_kt (aw_kq ?_)
  refine r_if_eq (pc := 6) (tgt := 24) dX8_plain_6 (by decide) (fun h6 => ?_) (fun h6 => ?_)
  · refine r_iconst (pc := 24) (v := 1) dX8_plain_24 (by decide) ?_
    refine mp_66 (pc := 25) hP rfl dX8_plain_25 ?_
    refine r_aload_n (pc := 28) dX8_plain_28 rfl rfl ?_
    refine mgv_66 (pc := 29) (x := 1) hP rfl rfl dX8_plain_29 ?_
    refine r_if_le (pc := 32) (tgt := 37) dX8_plain_32 (by decide) (fun h => absurd h (by decide)) (fun _ => ?_)
    refine r_iconst (pc := 35) (v := 0) dX8_plain_35 (by decide) ?_
    refine r_iret (pc := 36) rfl rfl dX8_plain_36 ?_
    exact ⟨0, _, _, rfl, rfl, rfl, rfl⟩
  · refine r_iload_n (pc := 9) dX8_plain_9 rfl rfl ?_
    refine s_X8_149 (pc := 10) (kc' := 0) (ks' := 0) rfl rfl (am_isFormula _)  (Nat.le_of_ble_eq_true rfl) (Nat.le_of_ble_eq_true rfl) (Nat.le_of_ble_eq_true rfl) (Nat.le_of_ble_eq_true rfl) (by exact (Nat.le_of_ble_eq_true rfl)) rfl (List.forall_mem_cons.mpr ⟨rfl, fun _ h => nomatch h⟩) rfl dX8_plain_10 aw_kt (aw_kq ?_)
    refine r_if_eq (pc := 13) (tgt := 24) dX8_plain_13 (by decide) (fun h13 => ?_) (fun h13 => ?_)
    · refine r_iconst (pc := 24) (v := 1) dX8_plain_24 (by decide) ?_
      refine mp_66 (pc := 25) hP rfl dX8_plain_25 ?_
      refine r_aload_n (pc := 28) dX8_plain_28 rfl rfl ?_
      refine mgv_66 (pc := 29) (x := 1) hP rfl rfl dX8_plain_29 ?_
      refine r_if_le (pc := 32) (tgt := 37) dX8_plain_32 (by decide) (fun h => absurd h (by decide)) (fun _ => ?_)
      refine r_iconst (pc := 35) (v := 0) dX8_plain_35 (by decide) ?_
      refine r_iret (pc := 36) rfl rfl dX8_plain_36 ?_
      exact ⟨0, _, _, rfl, rfl, rfl, rfl⟩
    · refine r_iload_n (pc := 16) dX8_plain_16 rfl rfl ?_
      refine r_if_lt (pc := 17) (tgt := 24) dX8_plain_17 (by decide) (fun h17 => ?_) (fun h => absurd ⟨of_decide_eq_true (bi_ne.mp h6), of_decide_eq_true (bi_ne.mp h13), Int32.not_lt.mp h⟩ hb)
      refine r_iconst (pc := 24) (v := 1) dX8_plain_24 (by decide) ?_
      refine mp_66 (pc := 25) hP rfl dX8_plain_25 ?_
      refine r_aload_n (pc := 28) dX8_plain_28 rfl rfl ?_
      refine mgv_66 (pc := 29) (x := 1) hP rfl rfl dX8_plain_29 ?_
      refine r_if_le (pc := 32) (tgt := 37) dX8_plain_32 (by decide) (fun h => absurd h (by decide)) (fun _ => ?_)
      refine r_iconst (pc := 35) (v := 0) dX8_plain_35 (by decide) ?_
      refine r_iret (pc := 36) rfl rfl dX8_plain_36 ?_
      exact ⟨0, _, _, rfl, rfl, rfl, rfl⟩

/-- what plain answers of a row -/
def plA (row : List Int32) (p : Int32) : Int32 := if row = [] then -1 else ((plS row)[p.toNatClampNeg]?).getD (-1)
set_option maxRecDepth 100000 in
set_option maxHeartbeats 4000000 in
theorem am_plain {G : aw_G} {P T : List va_E} {sc : Nat → Int32} {ar : Nat → Nat → Int32} (hP : P.length = 12) {tn vn an : Nat} {R : Nat → List Int32} {vv : Nat → Nat} (hM : MI tn vn an R vv sc ar) (v f : Nat) (hv : v < vn) (hf : f < 10) (p : Int32) (hp : 0 ≤ p) : AM G fX8_plain [.ref 12, .int (nI v), .int (nI f), .int p] (mw P sc ar T) (qe P T (fun r sc2 ar2 => ag [24] [23, 25] (upd sc 12 0) ar sc2 ar2 ∧ r = plA (R (10 * (v + 1) + f)) p)) := by
  refine AM_of (by decide) rfl rfl (Nat.le_of_ble_eq_true rfl) ?_
  show AW G fX8_plain 0 0 (mw P sc ar T) 0 [some (.ref 12), some (.int (nI v)), some (.int (nI f)), some (.int p), none] [] _
  have hv10 : v < 10 := by have := hM.2.2.2.1; omega
  have hcr := (hM.2.2.2.2.2.2.1 (10 * (v + 1) + f) (by omega)).1
  refine r_aload_n (pc := 0) dX8_plain_0 rfl rfl ?_
  refine r_aload_n (pc := 1) dX8_plain_1 rfl rfl ?_
  refine r_iload_n (pc := 2) dX8_plain_2 rfl rfl ?_
  refine s_X8_172 (pc := 3) (kc' := 0) (ks' := 0) rfl rfl (am_isVersion hP _) (mw_o hP) (Nat.le_of_ble_eq_true rfl) (Nat.le_of_ble_eq_true rfl) (Nat.le_of_ble_eq_true rfl) (Nat.le_of_ble_eq_true rfl) (by exact (Nat.le_of_ble_eq_true rfl)) rfl (List.forall_mem_cons.mpr ⟨rfl, (List.forall_mem_cons.mpr ⟨rfl, fun _ h => nomatch h⟩)⟩) rfl dX8_plain_3 aw_kt (aw_kq ?_)
  refine r_if_eq (pc := 6) (tgt := 24) dX8_plain_6 (by decide) (fun h => absurd (bi_eq.mp h) (by rw [decide_eq_true (show (0 ≤ nI v ∧ nI v ≤ sc 5 - 1) from by rw [hM.2.2.1]; exact inV_of hv (by have := hM.2.2.2.1; omega))]; decide)) (fun h6 => ?_)
  refine r_iload_n (pc := 9) dX8_plain_9 rfl rfl ?_
  refine s_X8_149 (pc := 10) (kc' := 0) (ks' := 0) rfl rfl (am_isFormula _)  (Nat.le_of_ble_eq_true rfl) (Nat.le_of_ble_eq_true rfl) (Nat.le_of_ble_eq_true rfl) (Nat.le_of_ble_eq_true rfl) (by exact (Nat.le_of_ble_eq_true rfl)) rfl (List.forall_mem_cons.mpr ⟨rfl, fun _ h => nomatch h⟩) rfl dX8_plain_10 aw_kt (aw_kq ?_)
  refine r_if_eq (pc := 13) (tgt := 24) dX8_plain_13 (by decide) (fun h => absurd (bi_eq.mp h) (by rw [decide_eq_true (show 0 ≤ nI f ∧ nI f ≤ 9 from nI_rng (n := 9) (by omega) (by decide))]; decide)) (fun h13 => ?_)
  refine r_iload_n (pc := 16) dX8_plain_16 rfl rfl ?_
  refine r_if_lt (pc := 17) (tgt := 24) dX8_plain_17 (by decide) (fun h => absurd h (Int32.not_lt.mpr hp)) (fun h17 => ?_)
  refine r_iconst (pc := 20) (v := 0) dX8_plain_20 (by decide) ?_
  refine r_goto (pc := 21) (tgt := 25) dX8_plain_21 (by decide) ?_
  refine mp_66 (pc := 25) hP rfl dX8_plain_25 ?_
  refine r_aload_n (pc := 28) dX8_plain_28 rfl rfl ?_
  refine mgv_66 (pc := 29) (x := 0) hP rfl rfl dX8_plain_29 ?_
  refine r_if_le (pc := 32) (tgt := 37) dX8_plain_32 (by decide) (fun _ => ?_) (fun h => absurd h (by decide))
  refine r_bipush (pc := 37) (v := 10) dX8_plain_37 (by decide) ?_
  refine r_iload_n (pc := 39) dX8_plain_39 rfl rfl ?_
  refine r_iconst (pc := 40) (v := 1) dX8_plain_40 (by decide) ?_
  refine r_iadd (pc := 41) dX8_plain_41 ?_
  refine r_imul (pc := 42) dX8_plain_42 ?_
  refine r_iload_n (pc := 43) dX8_plain_43 rfl rfl ?_
  refine r_iadd (pc := 44) dX8_plain_44 ?_
  rw [nI_1, n10, nI_add]
  refine r_istore (pc := 45) dX8_plain_45 (Nat.le_of_ble_eq_true rfl) rfl ?_
  refine r_aload_n (pc := 47) dX8_plain_47 rfl rfl ?_
  refine mg_16 (pc := 48) hP rfl dX8_plain_48 ?_
  refine r_iload (pc := 51) dX8_plain_51 rfl ?_
  refine mln_3 (pc := 53) (10 * (v + 1) + f) hP ⟨rfl, by omega⟩ dX8_plain_53 ?_
  refine r_if_ne (pc := 54) (tgt := 59) dX8_plain_54 (by decide) (fun h54 => ?_) (fun h54 => ?_)
  · have hw : wfr (R (10 * (v + 1) + f)) := by
      rcases (hM.2.2.2.2.2.2.1 (10 * (v + 1) + f) (by omega)).2 with z | z
      · exact absurd ((len_pos hcr.2.2.1 hcr.2.1).mpr z) (fun z2 => h54 (Int32.le_antisymm z2 (by rw [hcr.2.2.1]; exact nI_pos' (by have := hcr.2.1; omega))))
      · exact z
    refine r_aload_n (pc := 59) dX8_plain_59 rfl rfl ?_
    refine r_iload (pc := 60) dX8_plain_60 rfl ?_
    refine s_X8_193 (pc := 62) (kc' := 0) (ks' := 0) rfl rfl (am_layPlain hP hcr hw.2.1 hw.1) (mw_o hP) (Nat.le_of_ble_eq_true rfl) (Nat.le_of_ble_eq_true rfl) (Nat.le_of_ble_eq_true rfl) (Nat.le_of_ble_eq_true rfl) (by exact (Nat.le_of_ble_eq_true rfl)) rfl (List.forall_mem_cons.mpr ⟨rfl, (List.forall_mem_cons.mpr ⟨rfl, fun _ h => nomatch h⟩)⟩) rfl dX8_plain_62 aw_kmt (aw_kmv (fun sc2 ar2 hC => ?_))
    refine r_iload_n (pc := 65) dX8_plain_65 rfl rfl ?_
    refine r_aload_n (pc := 66) dX8_plain_66 rfl rfl ?_
    refine mg_181 (pc := 67) hP rfl dX8_plain_67 ?_
    refine r_icmp_ge (pc := 70) (tgt := 82) dX8_plain_70 (by decide) (fun h70 => ?_) (fun h70 => ?_)
    · refine r_iconst (pc := 82) (v := -1) dX8_plain_82 (by decide) ?_
      refine r_iret (pc := 83) rfl rfl dX8_plain_83 ?_
      refine ⟨_, _, _, rfl, rfl, ag_mono hC.1 (by simp) (by simp), ?_⟩
      rw [plA, if_neg (wfr_ne hw)]
      have h9 : (plS (R (10 * (v + 1) + f))).length ≤ p.toNatClampNeg := by
        obtain ⟨j, hj, rfl⟩ := nI_of (Int32.not_lt.mpr hp)
        rw [nI_clamp hj]
        rw [hC.2.1] at h70
        exact (nI_leI (by have := hC.2.2.2; omega) hj).mp h70
      rw [List.getElem?_eq_none h9]
      rfl
    · have hfl : p.toNatClampNeg < (plS (R (10 * (v + 1) + f))).length := by
        obtain ⟨j, hj, hfj⟩ := nI_of (Int32.not_lt.mpr hp)
        rw [hfj, nI_clamp hj]
        rw [hfj, hC.2.1] at h70
        exact Nat.lt_of_not_le (fun z => h70 (nI_le z hj))
      refine r_aload_n (pc := 73) dX8_plain_73 rfl rfl ?_
      refine mg_56 (pc := 74) hP rfl dX8_plain_74 ?_
      refine r_iload_n (pc := 77) dX8_plain_77 rfl rfl ?_
      refine mln_23 (pc := 78) (p.toNatClampNeg) hP ⟨by obtain ⟨j, hj, hfj⟩ := nI_of (Int32.not_lt.mpr hp); rw [hfj, nI_clamp hj], by have := hC.2.2.2; omega⟩ dX8_plain_78 ?_
      refine r_goto (pc := 79) (tgt := 83) dX8_plain_79 (by decide) ?_
      refine r_iret (pc := 83) rfl rfl dX8_plain_83 ?_
      refine ⟨_, _, _, rfl, rfl, ag_mono hC.1 (by simp) (by simp), ?_⟩
      rw [plA, if_neg (wfr_ne hw)]
      have h8 : (plS (R (10 * (v + 1) + f)))[p.toNatClampNeg]? = some (plS (R (10 * (v + 1) + f)))[p.toNatClampNeg] := List.getElem?_eq_getElem hfl
      rw [hC.2.2.1 _ _ h8, h8]
      rfl
  · refine r_iconst (pc := 57) (v := -1) dX8_plain_57 (by decide) ?_
    refine r_iret (pc := 58) rfl rfl dX8_plain_58 ?_
    refine ⟨_, _, _, rfl, rfl, ag_rf, ?_⟩
    rw [plA, if_pos (show R (10 * (v + 1) + f) = [] from ?_)]
    exact (len_pos hcr.2.2.1 hcr.2.1).mp (by rw [h54]; exact Int32.le_refl _)

theorem rx_int {G : aw_G} {F : aw_F} {kc ks kc' ks' pc N : Nat} {loc : List (Option Value)} {st : List Value} {Q : aw_R → List va_E → Prop} {P cs : List va_E} (cs' : List va_E) (k : Nat) {n : Int32} (hP : P.length = 12) (hk : 12 + cs.length = k) (hcs : cs ++ [.inl (0, N, .inl (fun _ => 0))] = cs') (hn : ¬ n < 0) (hN : n.toNatClampNeg = N) (hby : N * componentBytes .int ≤ 536870912) (hkc9 : kc' + 1 ≤ kc) (hks9 : ks' + N ≤ ks) (hdg : decode (aw_c F) pc = .ok (.newarray .int, 2)) (kk : AW G F kc' ks' (P ++ cs') (pc + 2) loc (.ref k :: st) Q) : AW G F kc ks (P ++ cs) pc loc (.int n :: st) Q := by
  refine r_new_int (kc' := kc') (ks' := ks') tw_110 hn hN hby hkc9 hks9 hdg ?_
  rw [List.append_assoc, hcs, show (P ++ cs).length = k by rw [List.length_append, hP]; exact hk]
  exact kk
theorem rx_bool {G : aw_G} {F : aw_F} {kc ks kc' ks' pc N : Nat} {loc : List (Option Value)} {st : List Value} {Q : aw_R → List va_E → Prop} {P cs : List va_E} (cs' : List va_E) (k : Nat) {n : Int32} (hP : P.length = 12) (hk : 12 + cs.length = k) (hcs : cs ++ [.inl (1, N, .inl (fun _ => 0))] = cs') (hn : ¬ n < 0) (hN : n.toNatClampNeg = N) (hby : N * componentBytes .boolean ≤ 536870912) (hkc9 : kc' + 1 ≤ kc) (hks9 : ks' + N ≤ ks) (hdg : decode (aw_c F) pc = .ok (.newarray .boolean, 2)) (kk : AW G F kc' ks' (P ++ cs') (pc + 2) loc (.ref k :: st) Q) : AW G F kc ks (P ++ cs) pc loc (.int n :: st) Q := by
  refine r_new_boolean (kc' := kc') (ks' := ks') tw_948 hn hN hby hkc9 hks9 hdg ?_
  rw [List.append_assoc, hcs, show (P ++ cs).length = k by rw [List.length_append, hP]; exact hk]
  exact kk
set_option maxRecDepth 100000 in
set_option maxHeartbeats 4000000 in
theorem am_init8 {G : aw_G} {P : List va_E} (hP : P.length = 12) : AM G fX8_init [.ref 12] (P ++ [.inr (7, [.null, .int 0, .null, .null, .null, .int 0, .int 0, .null, .null, .null, .null, .null, .int 0, .null, .int 0, .null, .int 0, .null, .int 0, .null, .int 0, .null, .null, .null, .int 0, .null])]) (qx (.inl none) (mw P (fun _ => 0) (fun _ _ => 0) [])) := by
  refine AM_of (by decide) rfl rfl (Nat.le_of_ble_eq_true rfl) ?_
  show AW G fX8_init 17 5458 (P ++ [.inr (7, [.null, .int 0, .null, .null, .null, .int 0, .int 0, .null, .null, .null, .null, .null, .int 0, .null, .int 0, .null, .int 0, .null, .int 0, .null, .int 0, .null, .null, .null, .int 0, .null])]) 0 [some (.ref 12)] [] _
  refine r_aload_n (pc := 0) dX8_init_0 rfl rfl ?_
  refine s_X8_1 (pc := 1) rfl (Nat.le_of_ble_eq_true rfl) (Nat.le_of_ble_eq_true rfl) dX8_init_1 ?_
  refine r_aload_n (pc := 4) dX8_init_4 rfl rfl ?_
  refine r_bipush (pc := 5) (v := 40) dX8_init_5 (by decide) ?_
  refine rx_int (pc := 7) (kc' := 16) (ks' := 5418) (N := 40) [.inr (7, [.null, .int 0, .null, .null, .null, .int 0, .int 0, .null, .null, .null, .null, .null, .int 0, .null, .int 0, .null, .int 0, .null, .int 0, .null, .int 0, .null, .null, .null, .int 0, .null]), .inl (0, 40, .inl (fun _ => 0))] 13 hP rfl rfl (by decide) (by decide) (by decide) (Nat.le_of_ble_eq_true rfl) (Nat.le_of_ble_eq_true rfl) dX8_init_7 ?_
  refine p_X8_7 (pc := 9) (w' := P ++ [.inr (7, [.ref 13, .int 0, .null, .null, .null, .int 0, .int 0, .null, .null, .null, .null, .null, .int 0, .null, .int 0, .null, .int 0, .null, .int 0, .null, .int 0, .null, .null, .null, .int 0, .null]), .inl (0, 40, .inl (fun _ => 0))]) rfl rfl (by rw [List.getElem?_append_right (by omega), hP]; rfl) (Nat.le_of_ble_eq_true rfl) dX8_init_9 (by rw [List.set_append_right _ _ (by omega), hP]; rfl) ?_
  refine r_aload_n (pc := 12) dX8_init_12 rfl rfl ?_
  refine r_sipush (pc := 13) (v := 4400) dX8_init_13 (by decide) ?_
  refine rx_int (pc := 16) (kc' := 15) (ks' := 1018) (N := 4400) [.inr (7, [.ref 13, .int 0, .null, .null, .null, .int 0, .int 0, .null, .null, .null, .null, .null, .int 0, .null, .int 0, .null, .int 0, .null, .int 0, .null, .int 0, .null, .null, .null, .int 0, .null]), .inl (0, 40, .inl (fun _ => 0)), .inl (0, 4400, .inl (fun _ => 0))] 14 hP rfl rfl (by decide) (by decide) (by decide) (Nat.le_of_ble_eq_true rfl) (Nat.le_of_ble_eq_true rfl) dX8_init_16 ?_
  refine p_X8_13 (pc := 18) (w' := P ++ [.inr (7, [.ref 13, .int 0, .ref 14, .null, .null, .int 0, .int 0, .null, .null, .null, .null, .null, .int 0, .null, .int 0, .null, .int 0, .null, .int 0, .null, .int 0, .null, .null, .null, .int 0, .null]), .inl (0, 40, .inl (fun _ => 0)), .inl (0, 4400, .inl (fun _ => 0))]) rfl rfl (by rw [List.getElem?_append_right (by omega), hP]; rfl) (Nat.le_of_ble_eq_true rfl) dX8_init_18 (by rw [List.set_append_right _ _ (by omega), hP]; rfl) ?_
  refine r_aload_n (pc := 21) dX8_init_21 rfl rfl ?_
  refine r_bipush (pc := 22) (v := 110) dX8_init_22 (by decide) ?_
  refine rx_int (pc := 24) (kc' := 14) (ks' := 908) (N := 110) [.inr (7, [.ref 13, .int 0, .ref 14, .null, .null, .int 0, .int 0, .null, .null, .null, .null, .null, .int 0, .null, .int 0, .null, .int 0, .null, .int 0, .null, .int 0, .null, .null, .null, .int 0, .null]), .inl (0, 40, .inl (fun _ => 0)), .inl (0, 4400, .inl (fun _ => 0)), .inl (0, 110, .inl (fun _ => 0))] 15 hP rfl rfl (by decide) (by decide) (by decide) (Nat.le_of_ble_eq_true rfl) (Nat.le_of_ble_eq_true rfl) dX8_init_24 ?_
  refine p_X8_16 (pc := 26) (w' := P ++ [.inr (7, [.ref 13, .int 0, .ref 14, .ref 15, .null, .int 0, .int 0, .null, .null, .null, .null, .null, .int 0, .null, .int 0, .null, .int 0, .null, .int 0, .null, .int 0, .null, .null, .null, .int 0, .null]), .inl (0, 40, .inl (fun _ => 0)), .inl (0, 4400, .inl (fun _ => 0)), .inl (0, 110, .inl (fun _ => 0))]) rfl rfl (by rw [List.getElem?_append_right (by omega), hP]; rfl) (Nat.le_of_ble_eq_true rfl) dX8_init_26 (by rw [List.set_append_right _ _ (by omega), hP]; rfl) ?_
  refine r_aload_n (pc := 29) dX8_init_29 rfl rfl ?_
  refine r_bipush (pc := 30) (v := 66) dX8_init_30 (by decide) ?_
  refine rx_int (pc := 32) (kc' := 13) (ks' := 842) (N := 66) [.inr (7, [.ref 13, .int 0, .ref 14, .ref 15, .null, .int 0, .int 0, .null, .null, .null, .null, .null, .int 0, .null, .int 0, .null, .int 0, .null, .int 0, .null, .int 0, .null, .null, .null, .int 0, .null]), .inl (0, 40, .inl (fun _ => 0)), .inl (0, 4400, .inl (fun _ => 0)), .inl (0, 110, .inl (fun _ => 0)), .inl (0, 66, .inl (fun _ => 0))] 16 hP rfl rfl (by decide) (by decide) (by decide) (Nat.le_of_ble_eq_true rfl) (Nat.le_of_ble_eq_true rfl) dX8_init_32 ?_
  refine p_X8_19 (pc := 34) (w' := P ++ [.inr (7, [.ref 13, .int 0, .ref 14, .ref 15, .ref 16, .int 0, .int 0, .null, .null, .null, .null, .null, .int 0, .null, .int 0, .null, .int 0, .null, .int 0, .null, .int 0, .null, .null, .null, .int 0, .null]), .inl (0, 40, .inl (fun _ => 0)), .inl (0, 4400, .inl (fun _ => 0)), .inl (0, 110, .inl (fun _ => 0)), .inl (0, 66, .inl (fun _ => 0))]) rfl rfl (by rw [List.getElem?_append_right (by omega), hP]; rfl) (Nat.le_of_ble_eq_true rfl) dX8_init_34 (by rw [List.set_append_right _ _ (by omega), hP]; rfl) ?_
  refine r_aload_n (pc := 37) dX8_init_37 rfl rfl ?_
  refine r_bipush (pc := 38) (v := 20) dX8_init_38 (by decide) ?_
  refine rx_int (pc := 40) (kc' := 12) (ks' := 822) (N := 20) [.inr (7, [.ref 13, .int 0, .ref 14, .ref 15, .ref 16, .int 0, .int 0, .null, .null, .null, .null, .null, .int 0, .null, .int 0, .null, .int 0, .null, .int 0, .null, .int 0, .null, .null, .null, .int 0, .null]), .inl (0, 40, .inl (fun _ => 0)), .inl (0, 4400, .inl (fun _ => 0)), .inl (0, 110, .inl (fun _ => 0)), .inl (0, 66, .inl (fun _ => 0)), .inl (0, 20, .inl (fun _ => 0))] 17 hP rfl rfl (by decide) (by decide) (by decide) (Nat.le_of_ble_eq_true rfl) (Nat.le_of_ble_eq_true rfl) dX8_init_40 ?_
  refine p_X8_22 (pc := 42) (w' := P ++ [.inr (7, [.ref 13, .int 0, .ref 14, .ref 15, .ref 16, .int 0, .int 0, .ref 17, .null, .null, .null, .null, .int 0, .null, .int 0, .null, .int 0, .null, .int 0, .null, .int 0, .null, .null, .null, .int 0, .null]), .inl (0, 40, .inl (fun _ => 0)), .inl (0, 4400, .inl (fun _ => 0)), .inl (0, 110, .inl (fun _ => 0)), .inl (0, 66, .inl (fun _ => 0)), .inl (0, 20, .inl (fun _ => 0))]) rfl rfl (by rw [List.getElem?_append_right (by omega), hP]; rfl) (Nat.le_of_ble_eq_true rfl) dX8_init_42 (by rw [List.set_append_right _ _ (by omega), hP]; rfl) ?_
  refine r_aload_n (pc := 45) dX8_init_45 rfl rfl ?_
  refine r_bipush (pc := 46) (v := 20) dX8_init_46 (by decide) ?_
  refine rx_int (pc := 48) (kc' := 11) (ks' := 802) (N := 20) [.inr (7, [.ref 13, .int 0, .ref 14, .ref 15, .ref 16, .int 0, .int 0, .ref 17, .null, .null, .null, .null, .int 0, .null, .int 0, .null, .int 0, .null, .int 0, .null, .int 0, .null, .null, .null, .int 0, .null]), .inl (0, 40, .inl (fun _ => 0)), .inl (0, 4400, .inl (fun _ => 0)), .inl (0, 110, .inl (fun _ => 0)), .inl (0, 66, .inl (fun _ => 0)), .inl (0, 20, .inl (fun _ => 0)), .inl (0, 20, .inl (fun _ => 0))] 18 hP rfl rfl (by decide) (by decide) (by decide) (Nat.le_of_ble_eq_true rfl) (Nat.le_of_ble_eq_true rfl) dX8_init_48 ?_
  refine p_X8_25 (pc := 50) (w' := P ++ [.inr (7, [.ref 13, .int 0, .ref 14, .ref 15, .ref 16, .int 0, .int 0, .ref 17, .ref 18, .null, .null, .null, .int 0, .null, .int 0, .null, .int 0, .null, .int 0, .null, .int 0, .null, .null, .null, .int 0, .null]), .inl (0, 40, .inl (fun _ => 0)), .inl (0, 4400, .inl (fun _ => 0)), .inl (0, 110, .inl (fun _ => 0)), .inl (0, 66, .inl (fun _ => 0)), .inl (0, 20, .inl (fun _ => 0)), .inl (0, 20, .inl (fun _ => 0))]) rfl rfl (by rw [List.getElem?_append_right (by omega), hP]; rfl) (Nat.le_of_ble_eq_true rfl) dX8_init_50 (by rw [List.set_append_right _ _ (by omega), hP]; rfl) ?_
  refine r_aload_n (pc := 53) dX8_init_53 rfl rfl ?_
  refine r_bipush (pc := 54) (v := 120) dX8_init_54 (by decide) ?_
  refine rx_int (pc := 56) (kc' := 10) (ks' := 682) (N := 120) [.inr (7, [.ref 13, .int 0, .ref 14, .ref 15, .ref 16, .int 0, .int 0, .ref 17, .ref 18, .null, .null, .null, .int 0, .null, .int 0, .null, .int 0, .null, .int 0, .null, .int 0, .null, .null, .null, .int 0, .null]), .inl (0, 40, .inl (fun _ => 0)), .inl (0, 4400, .inl (fun _ => 0)), .inl (0, 110, .inl (fun _ => 0)), .inl (0, 66, .inl (fun _ => 0)), .inl (0, 20, .inl (fun _ => 0)), .inl (0, 20, .inl (fun _ => 0)), .inl (0, 120, .inl (fun _ => 0))] 19 hP rfl rfl (by decide) (by decide) (by decide) (Nat.le_of_ble_eq_true rfl) (Nat.le_of_ble_eq_true rfl) dX8_init_56 ?_
  refine p_X8_28 (pc := 58) (w' := P ++ [.inr (7, [.ref 13, .int 0, .ref 14, .ref 15, .ref 16, .int 0, .int 0, .ref 17, .ref 18, .ref 19, .null, .null, .int 0, .null, .int 0, .null, .int 0, .null, .int 0, .null, .int 0, .null, .null, .null, .int 0, .null]), .inl (0, 40, .inl (fun _ => 0)), .inl (0, 4400, .inl (fun _ => 0)), .inl (0, 110, .inl (fun _ => 0)), .inl (0, 66, .inl (fun _ => 0)), .inl (0, 20, .inl (fun _ => 0)), .inl (0, 20, .inl (fun _ => 0)), .inl (0, 120, .inl (fun _ => 0))]) rfl rfl (by rw [List.getElem?_append_right (by omega), hP]; rfl) (Nat.le_of_ble_eq_true rfl) dX8_init_58 (by rw [List.set_append_right _ _ (by omega), hP]; rfl) ?_
  refine r_aload_n (pc := 61) dX8_init_61 rfl rfl ?_
  refine r_bipush (pc := 62) (v := 120) dX8_init_62 (by decide) ?_
  refine rx_bool (pc := 64) (kc' := 9) (ks' := 562) (N := 120) [.inr (7, [.ref 13, .int 0, .ref 14, .ref 15, .ref 16, .int 0, .int 0, .ref 17, .ref 18, .ref 19, .null, .null, .int 0, .null, .int 0, .null, .int 0, .null, .int 0, .null, .int 0, .null, .null, .null, .int 0, .null]), .inl (0, 40, .inl (fun _ => 0)), .inl (0, 4400, .inl (fun _ => 0)), .inl (0, 110, .inl (fun _ => 0)), .inl (0, 66, .inl (fun _ => 0)), .inl (0, 20, .inl (fun _ => 0)), .inl (0, 20, .inl (fun _ => 0)), .inl (0, 120, .inl (fun _ => 0)), .inl (1, 120, .inl (fun _ => 0))] 20 hP rfl rfl (by decide) (by decide) (by decide) (Nat.le_of_ble_eq_true rfl) (Nat.le_of_ble_eq_true rfl) dX8_init_64 ?_
  refine p_X8_31 (pc := 66) (w' := P ++ [.inr (7, [.ref 13, .int 0, .ref 14, .ref 15, .ref 16, .int 0, .int 0, .ref 17, .ref 18, .ref 19, .ref 20, .null, .int 0, .null, .int 0, .null, .int 0, .null, .int 0, .null, .int 0, .null, .null, .null, .int 0, .null]), .inl (0, 40, .inl (fun _ => 0)), .inl (0, 4400, .inl (fun _ => 0)), .inl (0, 110, .inl (fun _ => 0)), .inl (0, 66, .inl (fun _ => 0)), .inl (0, 20, .inl (fun _ => 0)), .inl (0, 20, .inl (fun _ => 0)), .inl (0, 120, .inl (fun _ => 0)), .inl (1, 120, .inl (fun _ => 0))]) rfl rfl (by rw [List.getElem?_append_right (by omega), hP]; rfl) (Nat.le_of_ble_eq_true rfl) dX8_init_66 (by rw [List.set_append_right _ _ (by omega), hP]; rfl) ?_
  refine r_aload_n (pc := 69) dX8_init_69 rfl rfl ?_
  refine r_bipush (pc := 70) (v := 20) dX8_init_70 (by decide) ?_
  refine rx_int (pc := 72) (kc' := 8) (ks' := 542) (N := 20) [.inr (7, [.ref 13, .int 0, .ref 14, .ref 15, .ref 16, .int 0, .int 0, .ref 17, .ref 18, .ref 19, .ref 20, .null, .int 0, .null, .int 0, .null, .int 0, .null, .int 0, .null, .int 0, .null, .null, .null, .int 0, .null]), .inl (0, 40, .inl (fun _ => 0)), .inl (0, 4400, .inl (fun _ => 0)), .inl (0, 110, .inl (fun _ => 0)), .inl (0, 66, .inl (fun _ => 0)), .inl (0, 20, .inl (fun _ => 0)), .inl (0, 20, .inl (fun _ => 0)), .inl (0, 120, .inl (fun _ => 0)), .inl (1, 120, .inl (fun _ => 0)), .inl (0, 20, .inl (fun _ => 0))] 21 hP rfl rfl (by decide) (by decide) (by decide) (Nat.le_of_ble_eq_true rfl) (Nat.le_of_ble_eq_true rfl) dX8_init_72 ?_
  refine p_X8_35 (pc := 74) (w' := P ++ [.inr (7, [.ref 13, .int 0, .ref 14, .ref 15, .ref 16, .int 0, .int 0, .ref 17, .ref 18, .ref 19, .ref 20, .ref 21, .int 0, .null, .int 0, .null, .int 0, .null, .int 0, .null, .int 0, .null, .null, .null, .int 0, .null]), .inl (0, 40, .inl (fun _ => 0)), .inl (0, 4400, .inl (fun _ => 0)), .inl (0, 110, .inl (fun _ => 0)), .inl (0, 66, .inl (fun _ => 0)), .inl (0, 20, .inl (fun _ => 0)), .inl (0, 20, .inl (fun _ => 0)), .inl (0, 120, .inl (fun _ => 0)), .inl (1, 120, .inl (fun _ => 0)), .inl (0, 20, .inl (fun _ => 0))]) rfl rfl (by rw [List.getElem?_append_right (by omega), hP]; rfl) (Nat.le_of_ble_eq_true rfl) dX8_init_74 (by rw [List.set_append_right _ _ (by omega), hP]; rfl) ?_
  refine r_aload_n (pc := 77) dX8_init_77 rfl rfl ?_
  refine r_bipush (pc := 78) (v := 8) dX8_init_78 (by decide) ?_
  refine rx_int (pc := 80) (kc' := 7) (ks' := 534) (N := 8) [.inr (7, [.ref 13, .int 0, .ref 14, .ref 15, .ref 16, .int 0, .int 0, .ref 17, .ref 18, .ref 19, .ref 20, .ref 21, .int 0, .null, .int 0, .null, .int 0, .null, .int 0, .null, .int 0, .null, .null, .null, .int 0, .null]), .inl (0, 40, .inl (fun _ => 0)), .inl (0, 4400, .inl (fun _ => 0)), .inl (0, 110, .inl (fun _ => 0)), .inl (0, 66, .inl (fun _ => 0)), .inl (0, 20, .inl (fun _ => 0)), .inl (0, 20, .inl (fun _ => 0)), .inl (0, 120, .inl (fun _ => 0)), .inl (1, 120, .inl (fun _ => 0)), .inl (0, 20, .inl (fun _ => 0)), .inl (0, 8, .inl (fun _ => 0))] 22 hP rfl rfl (by decide) (by decide) (by decide) (Nat.le_of_ble_eq_true rfl) (Nat.le_of_ble_eq_true rfl) dX8_init_80 ?_
  refine p_X8_38 (pc := 82) (w' := P ++ [.inr (7, [.ref 13, .int 0, .ref 14, .ref 15, .ref 16, .int 0, .int 0, .ref 17, .ref 18, .ref 19, .ref 20, .ref 21, .int 0, .ref 22, .int 0, .null, .int 0, .null, .int 0, .null, .int 0, .null, .null, .null, .int 0, .null]), .inl (0, 40, .inl (fun _ => 0)), .inl (0, 4400, .inl (fun _ => 0)), .inl (0, 110, .inl (fun _ => 0)), .inl (0, 66, .inl (fun _ => 0)), .inl (0, 20, .inl (fun _ => 0)), .inl (0, 20, .inl (fun _ => 0)), .inl (0, 120, .inl (fun _ => 0)), .inl (1, 120, .inl (fun _ => 0)), .inl (0, 20, .inl (fun _ => 0)), .inl (0, 8, .inl (fun _ => 0))]) rfl rfl (by rw [List.getElem?_append_right (by omega), hP]; rfl) (Nat.le_of_ble_eq_true rfl) dX8_init_82 (by rw [List.set_append_right _ _ (by omega), hP]; rfl) ?_
  refine r_aload_n (pc := 85) dX8_init_85 rfl rfl ?_
  refine r_bipush (pc := 86) (v := 8) dX8_init_86 (by decide) ?_
  refine rx_bool (pc := 88) (kc' := 6) (ks' := 526) (N := 8) [.inr (7, [.ref 13, .int 0, .ref 14, .ref 15, .ref 16, .int 0, .int 0, .ref 17, .ref 18, .ref 19, .ref 20, .ref 21, .int 0, .ref 22, .int 0, .null, .int 0, .null, .int 0, .null, .int 0, .null, .null, .null, .int 0, .null]), .inl (0, 40, .inl (fun _ => 0)), .inl (0, 4400, .inl (fun _ => 0)), .inl (0, 110, .inl (fun _ => 0)), .inl (0, 66, .inl (fun _ => 0)), .inl (0, 20, .inl (fun _ => 0)), .inl (0, 20, .inl (fun _ => 0)), .inl (0, 120, .inl (fun _ => 0)), .inl (1, 120, .inl (fun _ => 0)), .inl (0, 20, .inl (fun _ => 0)), .inl (0, 8, .inl (fun _ => 0)), .inl (1, 8, .inl (fun _ => 0))] 23 hP rfl rfl (by decide) (by decide) (by decide) (Nat.le_of_ble_eq_true rfl) (Nat.le_of_ble_eq_true rfl) dX8_init_88 ?_
  refine p_X8_41 (pc := 90) (w' := P ++ [.inr (7, [.ref 13, .int 0, .ref 14, .ref 15, .ref 16, .int 0, .int 0, .ref 17, .ref 18, .ref 19, .ref 20, .ref 21, .int 0, .ref 22, .int 0, .ref 23, .int 0, .null, .int 0, .null, .int 0, .null, .null, .null, .int 0, .null]), .inl (0, 40, .inl (fun _ => 0)), .inl (0, 4400, .inl (fun _ => 0)), .inl (0, 110, .inl (fun _ => 0)), .inl (0, 66, .inl (fun _ => 0)), .inl (0, 20, .inl (fun _ => 0)), .inl (0, 20, .inl (fun _ => 0)), .inl (0, 120, .inl (fun _ => 0)), .inl (1, 120, .inl (fun _ => 0)), .inl (0, 20, .inl (fun _ => 0)), .inl (0, 8, .inl (fun _ => 0)), .inl (1, 8, .inl (fun _ => 0))]) rfl rfl (by rw [List.getElem?_append_right (by omega), hP]; rfl) (Nat.le_of_ble_eq_true rfl) dX8_init_90 (by rw [List.set_append_right _ _ (by omega), hP]; rfl) ?_
  refine r_aload_n (pc := 93) dX8_init_93 rfl rfl ?_
  refine r_bipush (pc := 94) (v := 40) dX8_init_94 (by decide) ?_
  refine rx_int (pc := 96) (kc' := 5) (ks' := 486) (N := 40) [.inr (7, [.ref 13, .int 0, .ref 14, .ref 15, .ref 16, .int 0, .int 0, .ref 17, .ref 18, .ref 19, .ref 20, .ref 21, .int 0, .ref 22, .int 0, .ref 23, .int 0, .null, .int 0, .null, .int 0, .null, .null, .null, .int 0, .null]), .inl (0, 40, .inl (fun _ => 0)), .inl (0, 4400, .inl (fun _ => 0)), .inl (0, 110, .inl (fun _ => 0)), .inl (0, 66, .inl (fun _ => 0)), .inl (0, 20, .inl (fun _ => 0)), .inl (0, 20, .inl (fun _ => 0)), .inl (0, 120, .inl (fun _ => 0)), .inl (1, 120, .inl (fun _ => 0)), .inl (0, 20, .inl (fun _ => 0)), .inl (0, 8, .inl (fun _ => 0)), .inl (1, 8, .inl (fun _ => 0)), .inl (0, 40, .inl (fun _ => 0))] 24 hP rfl rfl (by decide) (by decide) (by decide) (Nat.le_of_ble_eq_true rfl) (Nat.le_of_ble_eq_true rfl) dX8_init_96 ?_
  refine p_X8_44 (pc := 98) (w' := P ++ [.inr (7, [.ref 13, .int 0, .ref 14, .ref 15, .ref 16, .int 0, .int 0, .ref 17, .ref 18, .ref 19, .ref 20, .ref 21, .int 0, .ref 22, .int 0, .ref 23, .int 0, .ref 24, .int 0, .null, .int 0, .null, .null, .null, .int 0, .null]), .inl (0, 40, .inl (fun _ => 0)), .inl (0, 4400, .inl (fun _ => 0)), .inl (0, 110, .inl (fun _ => 0)), .inl (0, 66, .inl (fun _ => 0)), .inl (0, 20, .inl (fun _ => 0)), .inl (0, 20, .inl (fun _ => 0)), .inl (0, 120, .inl (fun _ => 0)), .inl (1, 120, .inl (fun _ => 0)), .inl (0, 20, .inl (fun _ => 0)), .inl (0, 8, .inl (fun _ => 0)), .inl (1, 8, .inl (fun _ => 0)), .inl (0, 40, .inl (fun _ => 0))]) rfl rfl (by rw [List.getElem?_append_right (by omega), hP]; rfl) (Nat.le_of_ble_eq_true rfl) dX8_init_98 (by rw [List.set_append_right _ _ (by omega), hP]; rfl) ?_
  refine r_aload_n (pc := 101) dX8_init_101 rfl rfl ?_
  refine r_bipush (pc := 102) (v := 40) dX8_init_102 (by decide) ?_
  refine rx_int (pc := 104) (kc' := 4) (ks' := 446) (N := 40) [.inr (7, [.ref 13, .int 0, .ref 14, .ref 15, .ref 16, .int 0, .int 0, .ref 17, .ref 18, .ref 19, .ref 20, .ref 21, .int 0, .ref 22, .int 0, .ref 23, .int 0, .ref 24, .int 0, .null, .int 0, .null, .null, .null, .int 0, .null]), .inl (0, 40, .inl (fun _ => 0)), .inl (0, 4400, .inl (fun _ => 0)), .inl (0, 110, .inl (fun _ => 0)), .inl (0, 66, .inl (fun _ => 0)), .inl (0, 20, .inl (fun _ => 0)), .inl (0, 20, .inl (fun _ => 0)), .inl (0, 120, .inl (fun _ => 0)), .inl (1, 120, .inl (fun _ => 0)), .inl (0, 20, .inl (fun _ => 0)), .inl (0, 8, .inl (fun _ => 0)), .inl (1, 8, .inl (fun _ => 0)), .inl (0, 40, .inl (fun _ => 0)), .inl (0, 40, .inl (fun _ => 0))] 25 hP rfl rfl (by decide) (by decide) (by decide) (Nat.le_of_ble_eq_true rfl) (Nat.le_of_ble_eq_true rfl) dX8_init_104 ?_
  refine p_X8_47 (pc := 106) (w' := P ++ [.inr (7, [.ref 13, .int 0, .ref 14, .ref 15, .ref 16, .int 0, .int 0, .ref 17, .ref 18, .ref 19, .ref 20, .ref 21, .int 0, .ref 22, .int 0, .ref 23, .int 0, .ref 24, .int 0, .ref 25, .int 0, .null, .null, .null, .int 0, .null]), .inl (0, 40, .inl (fun _ => 0)), .inl (0, 4400, .inl (fun _ => 0)), .inl (0, 110, .inl (fun _ => 0)), .inl (0, 66, .inl (fun _ => 0)), .inl (0, 20, .inl (fun _ => 0)), .inl (0, 20, .inl (fun _ => 0)), .inl (0, 120, .inl (fun _ => 0)), .inl (1, 120, .inl (fun _ => 0)), .inl (0, 20, .inl (fun _ => 0)), .inl (0, 8, .inl (fun _ => 0)), .inl (1, 8, .inl (fun _ => 0)), .inl (0, 40, .inl (fun _ => 0)), .inl (0, 40, .inl (fun _ => 0))]) rfl rfl (by rw [List.getElem?_append_right (by omega), hP]; rfl) (Nat.le_of_ble_eq_true rfl) dX8_init_106 (by rw [List.set_append_right _ _ (by omega), hP]; rfl) ?_
  refine r_aload_n (pc := 109) dX8_init_109 rfl rfl ?_
  refine r_bipush (pc := 110) (v := 40) dX8_init_110 (by decide) ?_
  refine rx_int (pc := 112) (kc' := 3) (ks' := 406) (N := 40) [.inr (7, [.ref 13, .int 0, .ref 14, .ref 15, .ref 16, .int 0, .int 0, .ref 17, .ref 18, .ref 19, .ref 20, .ref 21, .int 0, .ref 22, .int 0, .ref 23, .int 0, .ref 24, .int 0, .ref 25, .int 0, .null, .null, .null, .int 0, .null]), .inl (0, 40, .inl (fun _ => 0)), .inl (0, 4400, .inl (fun _ => 0)), .inl (0, 110, .inl (fun _ => 0)), .inl (0, 66, .inl (fun _ => 0)), .inl (0, 20, .inl (fun _ => 0)), .inl (0, 20, .inl (fun _ => 0)), .inl (0, 120, .inl (fun _ => 0)), .inl (1, 120, .inl (fun _ => 0)), .inl (0, 20, .inl (fun _ => 0)), .inl (0, 8, .inl (fun _ => 0)), .inl (1, 8, .inl (fun _ => 0)), .inl (0, 40, .inl (fun _ => 0)), .inl (0, 40, .inl (fun _ => 0)), .inl (0, 40, .inl (fun _ => 0))] 26 hP rfl rfl (by decide) (by decide) (by decide) (Nat.le_of_ble_eq_true rfl) (Nat.le_of_ble_eq_true rfl) dX8_init_112 ?_
  refine p_X8_50 (pc := 114) (w' := P ++ [.inr (7, [.ref 13, .int 0, .ref 14, .ref 15, .ref 16, .int 0, .int 0, .ref 17, .ref 18, .ref 19, .ref 20, .ref 21, .int 0, .ref 22, .int 0, .ref 23, .int 0, .ref 24, .int 0, .ref 25, .int 0, .ref 26, .null, .null, .int 0, .null]), .inl (0, 40, .inl (fun _ => 0)), .inl (0, 4400, .inl (fun _ => 0)), .inl (0, 110, .inl (fun _ => 0)), .inl (0, 66, .inl (fun _ => 0)), .inl (0, 20, .inl (fun _ => 0)), .inl (0, 20, .inl (fun _ => 0)), .inl (0, 120, .inl (fun _ => 0)), .inl (1, 120, .inl (fun _ => 0)), .inl (0, 20, .inl (fun _ => 0)), .inl (0, 8, .inl (fun _ => 0)), .inl (1, 8, .inl (fun _ => 0)), .inl (0, 40, .inl (fun _ => 0)), .inl (0, 40, .inl (fun _ => 0)), .inl (0, 40, .inl (fun _ => 0))]) rfl rfl (by rw [List.getElem?_append_right (by omega), hP]; rfl) (Nat.le_of_ble_eq_true rfl) dX8_init_114 (by rw [List.set_append_right _ _ (by omega), hP]; rfl) ?_
  refine r_aload_n (pc := 117) dX8_init_117 rfl rfl ?_
  refine r_bipush (pc := 118) (v := 6) dX8_init_118 (by decide) ?_
  refine rx_int (pc := 120) (kc' := 2) (ks' := 400) (N := 6) [.inr (7, [.ref 13, .int 0, .ref 14, .ref 15, .ref 16, .int 0, .int 0, .ref 17, .ref 18, .ref 19, .ref 20, .ref 21, .int 0, .ref 22, .int 0, .ref 23, .int 0, .ref 24, .int 0, .ref 25, .int 0, .ref 26, .null, .null, .int 0, .null]), .inl (0, 40, .inl (fun _ => 0)), .inl (0, 4400, .inl (fun _ => 0)), .inl (0, 110, .inl (fun _ => 0)), .inl (0, 66, .inl (fun _ => 0)), .inl (0, 20, .inl (fun _ => 0)), .inl (0, 20, .inl (fun _ => 0)), .inl (0, 120, .inl (fun _ => 0)), .inl (1, 120, .inl (fun _ => 0)), .inl (0, 20, .inl (fun _ => 0)), .inl (0, 8, .inl (fun _ => 0)), .inl (1, 8, .inl (fun _ => 0)), .inl (0, 40, .inl (fun _ => 0)), .inl (0, 40, .inl (fun _ => 0)), .inl (0, 40, .inl (fun _ => 0)), .inl (0, 6, .inl (fun _ => 0))] 27 hP rfl rfl (by decide) (by decide) (by decide) (Nat.le_of_ble_eq_true rfl) (Nat.le_of_ble_eq_true rfl) dX8_init_120 ?_
  refine p_X8_53 (pc := 122) (w' := P ++ [.inr (7, [.ref 13, .int 0, .ref 14, .ref 15, .ref 16, .int 0, .int 0, .ref 17, .ref 18, .ref 19, .ref 20, .ref 21, .int 0, .ref 22, .int 0, .ref 23, .int 0, .ref 24, .int 0, .ref 25, .int 0, .ref 26, .ref 27, .null, .int 0, .null]), .inl (0, 40, .inl (fun _ => 0)), .inl (0, 4400, .inl (fun _ => 0)), .inl (0, 110, .inl (fun _ => 0)), .inl (0, 66, .inl (fun _ => 0)), .inl (0, 20, .inl (fun _ => 0)), .inl (0, 20, .inl (fun _ => 0)), .inl (0, 120, .inl (fun _ => 0)), .inl (1, 120, .inl (fun _ => 0)), .inl (0, 20, .inl (fun _ => 0)), .inl (0, 8, .inl (fun _ => 0)), .inl (1, 8, .inl (fun _ => 0)), .inl (0, 40, .inl (fun _ => 0)), .inl (0, 40, .inl (fun _ => 0)), .inl (0, 40, .inl (fun _ => 0)), .inl (0, 6, .inl (fun _ => 0))]) rfl rfl (by rw [List.getElem?_append_right (by omega), hP]; rfl) (Nat.le_of_ble_eq_true rfl) dX8_init_122 (by rw [List.set_append_right _ _ (by omega), hP]; rfl) ?_
  refine r_aload_n (pc := 125) dX8_init_125 rfl rfl ?_
  refine r_sipush (pc := 126) (v := 200) dX8_init_126 (by decide) ?_
  refine rx_int (pc := 129) (kc' := 1) (ks' := 200) (N := 200) [.inr (7, [.ref 13, .int 0, .ref 14, .ref 15, .ref 16, .int 0, .int 0, .ref 17, .ref 18, .ref 19, .ref 20, .ref 21, .int 0, .ref 22, .int 0, .ref 23, .int 0, .ref 24, .int 0, .ref 25, .int 0, .ref 26, .ref 27, .null, .int 0, .null]), .inl (0, 40, .inl (fun _ => 0)), .inl (0, 4400, .inl (fun _ => 0)), .inl (0, 110, .inl (fun _ => 0)), .inl (0, 66, .inl (fun _ => 0)), .inl (0, 20, .inl (fun _ => 0)), .inl (0, 20, .inl (fun _ => 0)), .inl (0, 120, .inl (fun _ => 0)), .inl (1, 120, .inl (fun _ => 0)), .inl (0, 20, .inl (fun _ => 0)), .inl (0, 8, .inl (fun _ => 0)), .inl (1, 8, .inl (fun _ => 0)), .inl (0, 40, .inl (fun _ => 0)), .inl (0, 40, .inl (fun _ => 0)), .inl (0, 40, .inl (fun _ => 0)), .inl (0, 6, .inl (fun _ => 0)), .inl (0, 200, .inl (fun _ => 0))] 28 hP rfl rfl (by decide) (by decide) (by decide) (Nat.le_of_ble_eq_true rfl) (Nat.le_of_ble_eq_true rfl) dX8_init_129 ?_
  refine p_X8_56 (pc := 131) (w' := P ++ [.inr (7, [.ref 13, .int 0, .ref 14, .ref 15, .ref 16, .int 0, .int 0, .ref 17, .ref 18, .ref 19, .ref 20, .ref 21, .int 0, .ref 22, .int 0, .ref 23, .int 0, .ref 24, .int 0, .ref 25, .int 0, .ref 26, .ref 27, .ref 28, .int 0, .null]), .inl (0, 40, .inl (fun _ => 0)), .inl (0, 4400, .inl (fun _ => 0)), .inl (0, 110, .inl (fun _ => 0)), .inl (0, 66, .inl (fun _ => 0)), .inl (0, 20, .inl (fun _ => 0)), .inl (0, 20, .inl (fun _ => 0)), .inl (0, 120, .inl (fun _ => 0)), .inl (1, 120, .inl (fun _ => 0)), .inl (0, 20, .inl (fun _ => 0)), .inl (0, 8, .inl (fun _ => 0)), .inl (1, 8, .inl (fun _ => 0)), .inl (0, 40, .inl (fun _ => 0)), .inl (0, 40, .inl (fun _ => 0)), .inl (0, 40, .inl (fun _ => 0)), .inl (0, 6, .inl (fun _ => 0)), .inl (0, 200, .inl (fun _ => 0))]) rfl rfl (by rw [List.getElem?_append_right (by omega), hP]; rfl) (Nat.le_of_ble_eq_true rfl) dX8_init_131 (by rw [List.set_append_right _ _ (by omega), hP]; rfl) ?_
  refine r_aload_n (pc := 134) dX8_init_134 rfl rfl ?_
  refine r_sipush (pc := 135) (v := 200) dX8_init_135 (by decide) ?_
  refine rx_int (pc := 138) (kc' := 0) (ks' := 0) (N := 200) [.inr (7, [.ref 13, .int 0, .ref 14, .ref 15, .ref 16, .int 0, .int 0, .ref 17, .ref 18, .ref 19, .ref 20, .ref 21, .int 0, .ref 22, .int 0, .ref 23, .int 0, .ref 24, .int 0, .ref 25, .int 0, .ref 26, .ref 27, .ref 28, .int 0, .null]), .inl (0, 40, .inl (fun _ => 0)), .inl (0, 4400, .inl (fun _ => 0)), .inl (0, 110, .inl (fun _ => 0)), .inl (0, 66, .inl (fun _ => 0)), .inl (0, 20, .inl (fun _ => 0)), .inl (0, 20, .inl (fun _ => 0)), .inl (0, 120, .inl (fun _ => 0)), .inl (1, 120, .inl (fun _ => 0)), .inl (0, 20, .inl (fun _ => 0)), .inl (0, 8, .inl (fun _ => 0)), .inl (1, 8, .inl (fun _ => 0)), .inl (0, 40, .inl (fun _ => 0)), .inl (0, 40, .inl (fun _ => 0)), .inl (0, 40, .inl (fun _ => 0)), .inl (0, 6, .inl (fun _ => 0)), .inl (0, 200, .inl (fun _ => 0)), .inl (0, 200, .inl (fun _ => 0))] 29 hP rfl rfl (by decide) (by decide) (by decide) (Nat.le_of_ble_eq_true rfl) (Nat.le_of_ble_eq_true rfl) dX8_init_138 ?_
  refine p_X8_59 (pc := 140) (w' := P ++ [.inr (7, [.ref 13, .int 0, .ref 14, .ref 15, .ref 16, .int 0, .int 0, .ref 17, .ref 18, .ref 19, .ref 20, .ref 21, .int 0, .ref 22, .int 0, .ref 23, .int 0, .ref 24, .int 0, .ref 25, .int 0, .ref 26, .ref 27, .ref 28, .int 0, .ref 29]), .inl (0, 40, .inl (fun _ => 0)), .inl (0, 4400, .inl (fun _ => 0)), .inl (0, 110, .inl (fun _ => 0)), .inl (0, 66, .inl (fun _ => 0)), .inl (0, 20, .inl (fun _ => 0)), .inl (0, 20, .inl (fun _ => 0)), .inl (0, 120, .inl (fun _ => 0)), .inl (1, 120, .inl (fun _ => 0)), .inl (0, 20, .inl (fun _ => 0)), .inl (0, 8, .inl (fun _ => 0)), .inl (1, 8, .inl (fun _ => 0)), .inl (0, 40, .inl (fun _ => 0)), .inl (0, 40, .inl (fun _ => 0)), .inl (0, 40, .inl (fun _ => 0)), .inl (0, 6, .inl (fun _ => 0)), .inl (0, 200, .inl (fun _ => 0)), .inl (0, 200, .inl (fun _ => 0))]) rfl rfl (by rw [List.getElem?_append_right (by omega), hP]; rfl) (Nat.le_of_ble_eq_true rfl) dX8_init_140 (by rw [List.set_append_right _ _ (by omega), hP]; rfl) ?_
  refine r_aload_n (pc := 143) dX8_init_143 rfl rfl ?_
  refine r_iconst (pc := 144) (v := 0) dX8_init_144 (by decide) ?_
  refine p_X8_62 (pc := 145) (w' := P ++ [.inr (7, [.ref 13, .int 0, .ref 14, .ref 15, .ref 16, .int 0, .int 0, .ref 17, .ref 18, .ref 19, .ref 20, .ref 21, .int 0, .ref 22, .int 0, .ref 23, .int 0, .ref 24, .int 0, .ref 25, .int 0, .ref 26, .ref 27, .ref 28, .int 0, .ref 29]), .inl (0, 40, .inl (fun _ => 0)), .inl (0, 4400, .inl (fun _ => 0)), .inl (0, 110, .inl (fun _ => 0)), .inl (0, 66, .inl (fun _ => 0)), .inl (0, 20, .inl (fun _ => 0)), .inl (0, 20, .inl (fun _ => 0)), .inl (0, 120, .inl (fun _ => 0)), .inl (1, 120, .inl (fun _ => 0)), .inl (0, 20, .inl (fun _ => 0)), .inl (0, 8, .inl (fun _ => 0)), .inl (1, 8, .inl (fun _ => 0)), .inl (0, 40, .inl (fun _ => 0)), .inl (0, 40, .inl (fun _ => 0)), .inl (0, 40, .inl (fun _ => 0)), .inl (0, 6, .inl (fun _ => 0)), .inl (0, 200, .inl (fun _ => 0)), .inl (0, 200, .inl (fun _ => 0))]) rfl (by rw [List.getElem?_append_right (by omega), hP]; rfl) (Nat.le_of_ble_eq_true rfl) dX8_init_145 (by rw [List.set_append_right _ _ (by omega), hP]; rfl) ?_
  refine r_vret (pc := 148) rfl dX8_init_148 ?_
  exact ⟨rfl, rfl⟩
theorem MI_0 (vv : Nat → Nat) : MI 0 0 0 (fun _ => []) vv (fun _ => 0) (fun _ _ => 0) :=
  ⟨rfl, Nat.zero_le _, rfl, Nat.zero_le _, rfl, Nat.zero_le _, fun its hi => ⟨⟨hi, Nat.zero_le _, rfl, fun i x h => by cases h⟩, Or.inl rfl⟩, fun a ha => absurd ha (Nat.not_lt_zero _)⟩
end M12
