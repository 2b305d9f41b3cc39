/-! ===== the reference: publish ===== -/
section M10
set_option maxRecDepth 100000 in
set_option maxHeartbeats 4000000 in
theorem df_for {G : aw_G} {P T : List va_E} {sc : Nat → Int32} {ar : Nat → Nat → Int32} (hP : P.length = 12) {Q : aw_R → List va_E → Prop} {R : Nat → List Int32} (hR : ∀ its, its < 110 → crow ar its (R its) ∧ (R its = [] ∨ wfr (R its))) (a v f : Nat) (drp ty : Int32) (hv : v < 10) (hf : f < 6) : ∀ (m k : Nat) (b : Bool), k + m = 10 → AW G fX8_doubtFor 0 0 (mw P sc ar T) 121 [some (.ref 12), some (.int (nI a)), some (.int drp), some (.int (nI v)), some (.int (nI f)), some (.int ty), some (.int (bi (dbU R v drp f k m b))), none, none] [] Q → AW G fX8_doubtFor 0 0 (mw P sc ar T) 53 [some (.ref 12), some (.int (nI a)), some (.int drp), some (.int (nI v)), some (.int (nI f)), some (.int ty), some (.int (bi b)), some (.int (nI k)), none] [] Q := by
  intro m
  induction m with
  | zero =>
    intro k b hk kk
    refine r_iload (pc := 53) dX8_doubtFor_53 rfl ?_
    refine r_bipush (pc := 55) (v := 10) dX8_doubtFor_55 (by decide) ?_
    refine r_icmp_ge (pc := 57) (tgt := 121) dX8_doubtFor_57 (by decide) (fun h57 => ?_) (fun h => absurd (by rw [show k = 10 by omega]; decide) h)
    refine AW_drop 7 rfl ?_
    exact kk
  | succ m ih =>
    intro k b hk kk
    refine r_iload (pc := 53) dX8_doubtFor_53 rfl ?_
    refine r_bipush (pc := 55) (v := 10) dX8_doubtFor_55 (by decide) ?_
    refine r_icmp_ge (pc := 57) (tgt := 121) dX8_doubtFor_57 (by decide) (fun h => absurd h (nI_ge9 (b := 10) (by omega) (by decide))) (fun h57 => ?_)
    refine r_bipush (pc := 60) (v := 10) dX8_doubtFor_60 (by decide) ?_
    refine r_iload_n (pc := 62) dX8_doubtFor_62 rfl rfl ?_
    refine r_iconst (pc := 63) (v := 1) dX8_doubtFor_63 (by decide) ?_
    refine r_iadd (pc := 64) dX8_doubtFor_64 ?_
    refine r_imul (pc := 65) dX8_doubtFor_65 ?_
    refine r_iload (pc := 66) dX8_doubtFor_66 rfl ?_
    refine r_iadd (pc := 68) dX8_doubtFor_68 ?_
    rw [nI_1, n10, nI_add]
    refine r_istore (pc := 69) dX8_doubtFor_69 (Nat.le_of_ble_eq_true rfl) rfl ?_
    refine r_iload (pc := 71) dX8_doubtFor_71 rfl ?_
    refine r_if_ne (pc := 73) (tgt := 108) dX8_doubtFor_73 (by decide) (fun h73 => ?_) (fun h73 => ?_)
    · refine r_iconst (pc := 108) (v := 1) dX8_doubtFor_108 (by decide) ?_
      refine r_goto (pc := 109) (tgt := 113) dX8_doubtFor_109 (by decide) ?_
      refine r_istore (pc := 113) dX8_doubtFor_113 (Nat.le_of_ble_eq_true rfl) rfl ?_
      refine r_iincK (pc := 115) (k9 := 1) dX8_doubtFor_115 (by decide) rfl (Nat.le_of_ble_eq_true rfl) rfl ?_
      refine r_goto (pc := 118) (tgt := 53) dX8_doubtFor_118 (by decide) ?_
      have g1 : b = true := bi_ne.mp h73
      rw [nI_1]
      refine AW_drop 8 rfl ?_
      refine ih (k + 1) true (by omega) ?_
      rw [show dbU R v drp f (k + 1) m true = dbU R v drp f k (m + 1) b by rw [dbU]; simp [g1]]
      exact kk
    · refine r_iload_n (pc := 76) dX8_doubtFor_76 rfl rfl ?_
      refine r_iload (pc := 77) dX8_doubtFor_77 rfl ?_
      refine r_ishr (pc := 79) dX8_doubtFor_79 ?_
      refine r_iconst (pc := 80) (v := 1) dX8_doubtFor_80 (by decide) ?_
      refine r_iand (pc := 81) dX8_doubtFor_81 ?_
      refine r_iconst (pc := 82) (v := 1) dX8_doubtFor_82 (by decide) ?_
      refine r_icmp_ne (pc := 83) (tgt := 112) dX8_doubtFor_83 (by decide) (fun h83 => ?_) (fun h83 => ?_)
      · refine r_iconst (pc := 112) (v := 0) dX8_doubtFor_112 (by decide) ?_
        refine r_istore (pc := 113) dX8_doubtFor_113 (Nat.le_of_ble_eq_true rfl) rfl ?_
        refine r_iincK (pc := 115) (k9 := 1) dX8_doubtFor_115 (by decide) rfl (Nat.le_of_ble_eq_true rfl) rfl ?_
        refine r_goto (pc := 118) (tgt := 53) dX8_doubtFor_118 (by decide) ?_
        have g1 : b = false := bi_eq.mp h73
        have g2 : bitI drp k = false := decide_eq_false h83
        rw [nI_1]
        refine AW_drop 8 rfl ?_
        refine ih (k + 1) false (by omega) ?_
        rw [show dbU R v drp f (k + 1) m false = dbU R v drp f k (m + 1) b by rw [dbU]; simp [g1, g2]]
        exact kk
      · refine r_aload_n (pc := 86) dX8_doubtFor_86 rfl rfl ?_
        refine r_iload (pc := 87) dX8_doubtFor_87 rfl ?_
        refine r_iload (pc := 89) dX8_doubtFor_89 rfl ?_
        refine s_X8_159 (pc := 91) (kc' := 0) (ks' := 0) rfl rfl (am_areAlike hP (hR (10 * (v + 1) + k) (by omega)).1 (hR k (by omega)).1) (mw_o hP) (Nat.le_of_ble_eq_true rfl) (Nat.le_of_ble_eq_true rfl) (Nat.le_of_ble_eq_true rfl) (Nat.le_of_ble_eq_true rfl) (by exact (Nat.le_of_ble_eq_true rfl)) rfl (List.forall_mem_cons.mpr ⟨rfl, (List.forall_mem_cons.mpr ⟨rfl, (List.forall_mem_cons.mpr ⟨rfl, fun _ h => nomatch h⟩)⟩)⟩) rfl dX8_doubtFor_91 aw_kt (aw_kq ?_)
        refine r_if_eq (pc := 94) (tgt := 112) dX8_doubtFor_94 (by decide) (fun h94 => ?_) (fun h94 => ?_)
        · refine r_iconst (pc := 112) (v := 0) dX8_doubtFor_112 (by decide) ?_
          refine r_istore (pc := 113) dX8_doubtFor_113 (Nat.le_of_ble_eq_true rfl) rfl ?_
          refine r_iincK (pc := 115) (k9 := 1) dX8_doubtFor_115 (by decide) rfl (Nat.le_of_ble_eq_true rfl) rfl ?_
          refine r_goto (pc := 118) (tgt := 53) dX8_doubtFor_118 (by decide) ?_
          have g1 : b = false := bi_eq.mp h73
          have g2 : bitI drp k = true := decide_eq_true h83
          have g3 := of_decide_eq_false (bi_eq.mp h94)
          rw [nI_1]
          refine AW_drop 8 rfl ?_
          refine ih (k + 1) false (by omega) ?_
          rw [show dbU R v drp f (k + 1) m false = dbU R v drp f k (m + 1) b by rw [dbU]; simp [g1, g2, g3]]
          exact kk
        · refine r_aload_n (pc := 97) dX8_doubtFor_97 rfl rfl ?_
          refine r_iload (pc := 98) dX8_doubtFor_98 rfl ?_
          refine r_iload (pc := 100) dX8_doubtFor_100 rfl ?_
          refine s_X8_145 (pc := 102) (kc' := 0) (ks' := 0) rfl rfl (am_hasLetter (fn := f) hP (hR (10 * (v + 1) + k) (by omega)).1) (mw_o hP) (Nat.le_of_ble_eq_true rfl) (Nat.le_of_ble_eq_true rfl) (Nat.le_of_ble_eq_true rfl) (Nat.le_of_ble_eq_true rfl) (by exact (Nat.le_of_ble_eq_true rfl)) rfl (List.forall_mem_cons.mpr ⟨rfl, (List.forall_mem_cons.mpr ⟨rfl, (List.forall_mem_cons.mpr ⟨rfl, fun _ h => nomatch h⟩)⟩)⟩) rfl dX8_doubtFor_102 aw_kt (aw_kq ?_)
          refine r_if_eq (pc := 105) (tgt := 112) dX8_doubtFor_105 (by decide) (fun h105 => ?_) (fun h105 => ?_)
          · refine r_iconst (pc := 112) (v := 0) dX8_doubtFor_112 (by decide) ?_
            refine r_istore (pc := 113) dX8_doubtFor_113 (Nat.le_of_ble_eq_true rfl) rfl ?_
            refine r_iincK (pc := 115) (k9 := 1) dX8_doubtFor_115 (by decide) rfl (Nat.le_of_ble_eq_true rfl) rfl ?_
            refine r_goto (pc := 118) (tgt := 53) dX8_doubtFor_118 (by decide) ?_
            have g1 : b = false := bi_eq.mp h73
            have g2 : bitI drp k = true := decide_eq_true h83
            have g3 := of_decide_eq_true (bi_ne.mp h94)
            have g4 := bi_eq.mp h105
            rw [nI_1]
            refine AW_drop 8 rfl ?_
            refine ih (k + 1) false (by omega) ?_
            rw [show dbU R v drp f (k + 1) m false = dbU R v drp f k (m + 1) b by rw [dbU]; simp [g1, g2, g4]]
            exact kk
          · refine r_iconst (pc := 108) (v := 1) dX8_doubtFor_108 (by decide) ?_
            refine r_goto (pc := 109) (tgt := 113) dX8_doubtFor_109 (by decide) ?_
            refine r_istore (pc := 113) dX8_doubtFor_113 (Nat.le_of_ble_eq_true rfl) rfl ?_
            refine r_iincK (pc := 115) (k9 := 1) dX8_doubtFor_115 (by decide) rfl (Nat.le_of_ble_eq_true rfl) rfl ?_
            refine r_goto (pc := 118) (tgt := 53) dX8_doubtFor_118 (by decide) ?_
            have g1 : b = false := bi_eq.mp h73
            have g2 : bitI drp k = true := decide_eq_true h83
            have g3 := of_decide_eq_true (bi_ne.mp h94)
            have g4 := bi_ne.mp h105
            rw [nI_1]
            refine AW_drop 8 rfl ?_
            refine ih (k + 1) true (by omega) ?_
            rw [show dbU R v drp f (k + 1) m true = dbU R v drp f k (m + 1) b by rw [dbU, g1, g2, g4, decide_eq_true g3]; rfl]
            exact kk
theorem vaup_same {α : Type} (f : Nat → α) (k : Nat) : va_up f k (f k) = f := by
  funext j
  unfold va_up
  by_cases h : j = k
  · rw [if_pos h, h]
  · rw [if_neg h]
set_option maxRecDepth 100000 in
set_option maxHeartbeats 4000000 in
theorem df_fld {G : aw_G} {P T : List va_E} {sc : Nat → Int32} (hP : P.length = 12) {Q : aw_R → List va_E → Prop} {R : Nat → List Int32} (a v : Nat) (drp : Int32) (hv : v < 10) (ha20 : a < 20) : ∀ (m f : Nat) (ar : Nat → Nat → Int32), f + m = 6 → (∀ its, its < 110 → crow ar its (R its) ∧ (R its = [] ∨ wfr (R its))) → AW G fX8_doubtFor 0 0 (mw P sc (va_up ar 11 (upd (ar 11) a (dbA (ar 4) R v drp f m (ar 11 a)))) T) 149 [some (.ref 12), some (.int (nI a)), some (.int drp), some (.int (nI v)), none, none, none, none, none] [] Q → AW G fX8_doubtFor 0 0 (mw P sc ar T) 10 [some (.ref 12), some (.int (nI a)), some (.int drp), some (.int (nI v)), some (.int (nI f)), none, none, none, none] [] Q := by
  intro m
  induction m with
  | zero =>
    intro f ar hk hR kk
    refine r_iload (pc := 10) dX8_doubtFor_10 rfl ?_
    refine r_bipush (pc := 12) (v := 6) dX8_doubtFor_12 (by decide) ?_
    refine r_icmp_ge (pc := 14) (tgt := 149) dX8_doubtFor_14 (by decide) (fun h14 => ?_) (fun h => absurd (by rw [show f = 6 by omega]; decide) h)
    refine AW_drop 4 rfl ?_
    rw [show dbA (ar 4) R v drp f 0 (ar 11 a) = ar 11 a from rfl, fa_upd_same9, vaup_same] at kk
    exact kk
  | succ m ih =>
    intro f ar hk hR kk
    refine r_iload (pc := 10) dX8_doubtFor_10 rfl ?_
    refine r_bipush (pc := 12) (v := 6) dX8_doubtFor_12 (by decide) ?_
    refine r_icmp_ge (pc := 14) (tgt := 149) dX8_doubtFor_14 (by decide) (fun h => absurd h (nI_ge9 (b := 6) (by omega) (by decide))) (fun h14 => ?_)
    refine r_aload_n (pc := 17) dX8_doubtFor_17 rfl rfl ?_
    refine r_iload_n (pc := 18) dX8_doubtFor_18 rfl rfl ?_
    refine r_iload (pc := 19) dX8_doubtFor_19 rfl ?_
    refine s_X8_155 (pc := 21) (kc' := 0) (ks' := 0) rfl rfl (am_typeAt hP v f hv (by omega)) (mw_o hP) (Nat.le_of_ble_eq_true rfl) (Nat.le_of_ble_eq_true rfl) (Nat.le_of_ble_eq_true rfl) (Nat.le_of_ble_eq_true rfl) (by exact (Nat.le_of_ble_eq_true rfl)) rfl (List.forall_mem_cons.mpr ⟨rfl, (List.forall_mem_cons.mpr ⟨rfl, (List.forall_mem_cons.mpr ⟨rfl, fun _ h => nomatch h⟩)⟩)⟩) rfl dX8_doubtFor_21 aw_kt (aw_kq ?_)
    refine r_istore (pc := 24) dX8_doubtFor_24 (Nat.le_of_ble_eq_true rfl) rfl ?_
    refine r_iload (pc := 26) dX8_doubtFor_26 rfl ?_
    refine r_if_eq (pc := 28) (tgt := 47) dX8_doubtFor_28 (by decide) (fun h28 => ?_) (fun h28 => ?_)
    · refine r_iconst (pc := 47) (v := 0) dX8_doubtFor_47 (by decide) ?_
      refine r_istore (pc := 48) dX8_doubtFor_48 (Nat.le_of_ble_eq_true rfl) rfl ?_
      refine r_iconst (pc := 50) (v := 0) dX8_doubtFor_50 (by decide) ?_
      refine r_istore (pc := 51) dX8_doubtFor_51 (Nat.le_of_ble_eq_true rfl) rfl ?_
      have g : dbZ (ar 4) v f = false := decide_eq_false (fun z => z.1 h28)
      refine df_for hP hR a v f drp (ar 4 (6 * (v + 1) + f)) hv (by omega) 10 0 false rfl ?_
      refine r_aload_n (pc := 121) dX8_doubtFor_121 rfl rfl ?_
      refine mg_35 (pc := 122) hP rfl dX8_doubtFor_122 ?_
      refine r_iload_n (pc := 125) dX8_doubtFor_125 rfl rfl ?_
      refine r_dup2 (pc := 126) dX8_doubtFor_126 rfl rfl ?_
      refine mln_11 (pc := 127) (a) hP ⟨rfl, ha20⟩ dX8_doubtFor_127 ?_
      refine r_iload (pc := 128) dX8_doubtFor_128 rfl ?_
      refine r_if_eq (pc := 130) (tgt := 140) dX8_doubtFor_130 (by decide) (fun h130 => ?_) (fun h130 => ?_)
      · refine r_iconst (pc := 140) (v := 0) dX8_doubtFor_140 (by decide) ?_
        refine r_ior (pc := 141) dX8_doubtFor_141 ?_
        refine msn_11 (pc := 142) (a) hP ⟨rfl, ha20⟩ dX8_doubtFor_142 ?_
        refine r_iincK (pc := 143) (k9 := 1) dX8_doubtFor_143 (by decide) rfl (Nat.le_of_ble_eq_true rfl) rfl ?_
        refine r_goto (pc := 146) (tgt := 10) dX8_doubtFor_146 (by decide) ?_
        have g9 := bi_eq.mp h130
        refine AW_drop 5 rfl ?_
        refine AW_drop 6 rfl ?_
        rw [nI_1]
        refine ih (f + 1) (va_up ar 11 (upd (ar 11) a (ar 11 a ||| 0))) (by omega) (fun its hi => ⟨crow_ag2 (hR its hi).1 (ag_a (ag_rf (Ks := []) (Ka := [11]) (sc := sc) (ar := ar)) 11 _ (by decide)), (hR its hi).2⟩) ?_
        rw [va_up_ne _ _ (show (4 : Nat) ≠ 11 by decide), va_up_self, upd_s, upd_u, vaup_u]
        rw [show dbA (ar 4) R v drp (f + 1) m (ar 11 a ||| 0) = dbA (ar 4) R v drp f (m + 1) (ar 11 a) by rw [dbA, g, g9]; rfl]
        exact kk
      · refine r_iconst (pc := 133) (v := 1) dX8_doubtFor_133 (by decide) ?_
        refine r_iload (pc := 134) dX8_doubtFor_134 rfl ?_
        refine r_ishl (pc := 136) dX8_doubtFor_136 ?_
        refine r_goto (pc := 137) (tgt := 141) dX8_doubtFor_137 (by decide) ?_
        refine r_ior (pc := 141) dX8_doubtFor_141 ?_
        refine msn_11 (pc := 142) (a) hP ⟨rfl, ha20⟩ dX8_doubtFor_142 ?_
        refine r_iincK (pc := 143) (k9 := 1) dX8_doubtFor_143 (by decide) rfl (Nat.le_of_ble_eq_true rfl) rfl ?_
        refine r_goto (pc := 146) (tgt := 10) dX8_doubtFor_146 (by decide) ?_
        have g9 := bi_ne.mp h130
        refine AW_drop 5 rfl ?_
        refine AW_drop 6 rfl ?_
        rw [nI_1]
        refine ih (f + 1) (va_up ar 11 (upd (ar 11) a (ar 11 a ||| 1 <<< (nI f &&& 31)))) (by omega) (fun its hi => ⟨crow_ag2 (hR its hi).1 (ag_a (ag_rf (Ks := []) (Ka := [11]) (sc := sc) (ar := ar)) 11 _ (by decide)), (hR its hi).2⟩) ?_
        rw [va_up_ne _ _ (show (4 : Nat) ≠ 11 by decide), va_up_self, upd_s, upd_u, vaup_u]
        rw [show dbA (ar 4) R v drp (f + 1) m (ar 11 a ||| 1 <<< (nI f &&& 31)) = dbA (ar 4) R v drp f (m + 1) (ar 11 a) by rw [dbA, g, g9]; rfl]
        exact kk
    · refine r_iload (pc := 31) dX8_doubtFor_31 rfl ?_
      refine r_aload_n (pc := 33) dX8_doubtFor_33 rfl rfl ?_
      refine mg_19 (pc := 34) hP rfl dX8_doubtFor_34 ?_
      refine r_iload (pc := 37) dX8_doubtFor_37 rfl ?_
      refine mln_4 (pc := 39) (f) hP ⟨rfl, by omega⟩ dX8_doubtFor_39 ?_
      refine r_icmp_eq (pc := 40) (tgt := 47) dX8_doubtFor_40 (by decide) (fun h40 => ?_) (fun h40 => ?_)
      · refine r_iconst (pc := 47) (v := 0) dX8_doubtFor_47 (by decide) ?_
        refine r_istore (pc := 48) dX8_doubtFor_48 (Nat.le_of_ble_eq_true rfl) rfl ?_
        refine r_iconst (pc := 50) (v := 0) dX8_doubtFor_50 (by decide) ?_
        refine r_istore (pc := 51) dX8_doubtFor_51 (Nat.le_of_ble_eq_true rfl) rfl ?_
        have g : dbZ (ar 4) v f = false := decide_eq_false (fun z => z.2 h40)
        refine df_for hP hR a v f drp (ar 4 (6 * (v + 1) + f)) hv (by omega) 10 0 false rfl ?_
        refine r_aload_n (pc := 121) dX8_doubtFor_121 rfl rfl ?_
        refine mg_35 (pc := 122) hP rfl dX8_doubtFor_122 ?_
        refine r_iload_n (pc := 125) dX8_doubtFor_125 rfl rfl ?_
        refine r_dup2 (pc := 126) dX8_doubtFor_126 rfl rfl ?_
        refine mln_11 (pc := 127) (a) hP ⟨rfl, ha20⟩ dX8_doubtFor_127 ?_
        refine r_iload (pc := 128) dX8_doubtFor_128 rfl ?_
        refine r_if_eq (pc := 130) (tgt := 140) dX8_doubtFor_130 (by decide) (fun h130 => ?_) (fun h130 => ?_)
        · refine r_iconst (pc := 140) (v := 0) dX8_doubtFor_140 (by decide) ?_
          refine r_ior (pc := 141) dX8_doubtFor_141 ?_
          refine msn_11 (pc := 142) (a) hP ⟨rfl, ha20⟩ dX8_doubtFor_142 ?_
          refine r_iincK (pc := 143) (k9 := 1) dX8_doubtFor_143 (by decide) rfl (Nat.le_of_ble_eq_true rfl) rfl ?_
          refine r_goto (pc := 146) (tgt := 10) dX8_doubtFor_146 (by decide) ?_
          have g9 := bi_eq.mp h130
          refine AW_drop 5 rfl ?_
          refine AW_drop 6 rfl ?_
          rw [nI_1]
          refine ih (f + 1) (va_up ar 11 (upd (ar 11) a (ar 11 a ||| 0))) (by omega) (fun its hi => ⟨crow_ag2 (hR its hi).1 (ag_a (ag_rf (Ks := []) (Ka := [11]) (sc := sc) (ar := ar)) 11 _ (by decide)), (hR its hi).2⟩) ?_
          rw [va_up_ne _ _ (show (4 : Nat) ≠ 11 by decide), va_up_self, upd_s, upd_u, vaup_u]
          rw [show dbA (ar 4) R v drp (f + 1) m (ar 11 a ||| 0) = dbA (ar 4) R v drp f (m + 1) (ar 11 a) by rw [dbA, g, g9]; rfl]
          exact kk
        · refine r_iconst (pc := 133) (v := 1) dX8_doubtFor_133 (by decide) ?_
          refine r_iload (pc := 134) dX8_doubtFor_134 rfl ?_
          refine r_ishl (pc := 136) dX8_doubtFor_136 ?_
          refine r_goto (pc := 137) (tgt := 141) dX8_doubtFor_137 (by decide) ?_
          refine r_ior (pc := 141) dX8_doubtFor_141 ?_
          refine msn_11 (pc := 142) (a) hP ⟨rfl, ha20⟩ dX8_doubtFor_142 ?_
          refine r_iincK (pc := 143) (k9 := 1) dX8_doubtFor_143 (by decide) rfl (Nat.le_of_ble_eq_true rfl) rfl ?_
          refine r_goto (pc := 146) (tgt := 10) dX8_doubtFor_146 (by decide) ?_
          have g9 := bi_ne.mp h130
          refine AW_drop 5 rfl ?_
          refine AW_drop 6 rfl ?_
          rw [nI_1]
          refine ih (f + 1) (va_up ar 11 (upd (ar 11) a (ar 11 a ||| 1 <<< (nI f &&& 31)))) (by omega) (fun its hi => ⟨crow_ag2 (hR its hi).1 (ag_a (ag_rf (Ks := []) (Ka := [11]) (sc := sc) (ar := ar)) 11 _ (by decide)), (hR its hi).2⟩) ?_
          rw [va_up_ne _ _ (show (4 : Nat) ≠ 11 by decide), va_up_self, upd_s, upd_u, vaup_u]
          rw [show dbA (ar 4) R v drp (f + 1) m (ar 11 a ||| 1 <<< (nI f &&& 31)) = dbA (ar 4) R v drp f (m + 1) (ar 11 a) by rw [dbA, g, g9]; rfl]
          exact kk
      · refine r_iconst (pc := 43) (v := 1) dX8_doubtFor_43 (by decide) ?_
        refine r_goto (pc := 44) (tgt := 48) dX8_doubtFor_44 (by decide) ?_
        refine r_istore (pc := 48) dX8_doubtFor_48 (Nat.le_of_ble_eq_true rfl) rfl ?_
        refine r_iconst (pc := 50) (v := 0) dX8_doubtFor_50 (by decide) ?_
        refine r_istore (pc := 51) dX8_doubtFor_51 (Nat.le_of_ble_eq_true rfl) rfl ?_
        have g : dbZ (ar 4) v f = true := decide_eq_true ⟨h28, h40⟩
        refine df_for hP hR a v f drp (ar 4 (6 * (v + 1) + f)) hv (by omega) 10 0 true rfl ?_
        refine r_aload_n (pc := 121) dX8_doubtFor_121 rfl rfl ?_
        refine mg_35 (pc := 122) hP rfl dX8_doubtFor_122 ?_
        refine r_iload_n (pc := 125) dX8_doubtFor_125 rfl rfl ?_
        refine r_dup2 (pc := 126) dX8_doubtFor_126 rfl rfl ?_
        refine mln_11 (pc := 127) (a) hP ⟨rfl, ha20⟩ dX8_doubtFor_127 ?_
        refine r_iload (pc := 128) dX8_doubtFor_128 rfl ?_
        refine r_if_eq (pc := 130) (tgt := 140) dX8_doubtFor_130 (by decide) (fun h130 => ?_) (fun h130 => ?_)
        · refine r_iconst (pc := 140) (v := 0) dX8_doubtFor_140 (by decide) ?_
          refine r_ior (pc := 141) dX8_doubtFor_141 ?_
          refine msn_11 (pc := 142) (a) hP ⟨rfl, ha20⟩ dX8_doubtFor_142 ?_
          refine r_iincK (pc := 143) (k9 := 1) dX8_doubtFor_143 (by decide) rfl (Nat.le_of_ble_eq_true rfl) rfl ?_
          refine r_goto (pc := 146) (tgt := 10) dX8_doubtFor_146 (by decide) ?_
          have g9 := bi_eq.mp h130
          refine AW_drop 5 rfl ?_
          refine AW_drop 6 rfl ?_
          rw [nI_1]
          refine ih (f + 1) (va_up ar 11 (upd (ar 11) a (ar 11 a ||| 0))) (by omega) (fun its hi => ⟨crow_ag2 (hR its hi).1 (ag_a (ag_rf (Ks := []) (Ka := [11]) (sc := sc) (ar := ar)) 11 _ (by decide)), (hR its hi).2⟩) ?_
          rw [va_up_ne _ _ (show (4 : Nat) ≠ 11 by decide), va_up_self, upd_s, upd_u, vaup_u]
          rw [show dbA (ar 4) R v drp (f + 1) m (ar 11 a ||| 0) = dbA (ar 4) R v drp f (m + 1) (ar 11 a) by rw [dbA, g, g9]; rfl]
          exact kk
        · refine r_iconst (pc := 133) (v := 1) dX8_doubtFor_133 (by decide) ?_
          refine r_iload (pc := 134) dX8_doubtFor_134 rfl ?_
          refine r_ishl (pc := 136) dX8_doubtFor_136 ?_
          refine r_goto (pc := 137) (tgt := 141) dX8_doubtFor_137 (by decide) ?_
          refine r_ior (pc := 141) dX8_doubtFor_141 ?_
          refine msn_11 (pc := 142) (a) hP ⟨rfl, ha20⟩ dX8_doubtFor_142 ?_
          refine r_iincK (pc := 143) (k9 := 1) dX8_doubtFor_143 (by decide) rfl (Nat.le_of_ble_eq_true rfl) rfl ?_
          refine r_goto (pc := 146) (tgt := 10) dX8_doubtFor_146 (by decide) ?_
          have g9 := bi_ne.mp h130
          refine AW_drop 5 rfl ?_
          refine AW_drop 6 rfl ?_
          rw [nI_1]
          refine ih (f + 1) (va_up ar 11 (upd (ar 11) a (ar 11 a ||| 1 <<< (nI f &&& 31)))) (by omega) (fun its hi => ⟨crow_ag2 (hR its hi).1 (ag_a (ag_rf (Ks := []) (Ka := [11]) (sc := sc) (ar := ar)) 11 _ (by decide)), (hR its hi).2⟩) ?_
          rw [va_up_ne _ _ (show (4 : Nat) ≠ 11 by decide), va_up_self, upd_s, upd_u, vaup_u]
          rw [show dbA (ar 4) R v drp (f + 1) m (ar 11 a ||| 1 <<< (nI f &&& 31)) = dbA (ar 4) R v drp f (m + 1) (ar 11 a) by rw [dbA, g, g9]; rfl]
          exact kk
set_option maxRecDepth 100000 in
set_option maxHeartbeats 4000000 in
theorem am_doubtFor {G : aw_G} {P T : List va_E} {sc : Nat → Int32} {ar : Nat → Nat → Int32} (hP : P.length = 12) {R : Nat → List Int32} (hR : ∀ its, its < 110 → crow ar its (R its) ∧ (R its = [] ∨ wfr (R its))) (a : Nat) (ha20 : a < 20) (v : Nat) (hv : v < 10) (hv8 : ar 8 a = nI v) (drp : Int32) : AM G fX8_doubtFor [.ref 12, .int (nI a), .int drp] (mw P sc ar T) (qx (.inl none) (mw P sc (va_up (va_up ar 11 (upd (ar 11) a (dbA (ar 4) R v drp 0 6 (ar 11 a)))) 7 (upd (ar 7) a (if 0 < (dbA (ar 4) R v drp 0 6 (ar 11 a)) then 3 else ar 7 a))) T)) := by
  refine AM_of (by decide) rfl rfl (Nat.le_of_ble_eq_true rfl) ?_
  show AW G fX8_doubtFor 0 0 (mw P sc ar T) 0 [some (.ref 12), some (.int (nI a)), some (.int drp), none, none, none, none, none, none] [] _
  refine r_aload_n (pc := 0) dX8_doubtFor_0 rfl rfl ?_
  refine mg_25 (pc := 1) hP rfl dX8_doubtFor_1 ?_
  refine r_iload_n (pc := 4) dX8_doubtFor_4 rfl rfl ?_
  refine mln_8 (pc := 5) (a) hP ⟨rfl, ha20⟩ dX8_doubtFor_5 ?_
  rw [hv8]
  refine r_istore_n (pc := 6) dX8_doubtFor_6 rfl (Nat.le_of_ble_eq_true rfl) rfl ?_
  refine r_iconst (pc := 7) (v := 0) dX8_doubtFor_7 (by decide) ?_
  refine r_istore (pc := 8) dX8_doubtFor_8 (Nat.le_of_ble_eq_true rfl) rfl ?_
  refine df_fld hP a v drp hv ha20 6 0 ar rfl hR ?_
  refine r_aload_n (pc := 149) dX8_doubtFor_149 rfl rfl ?_
  refine mg_22 (pc := 150) hP rfl dX8_doubtFor_150 ?_
  refine r_iload_n (pc := 153) dX8_doubtFor_153 rfl rfl ?_
  refine r_aload_n (pc := 154) dX8_doubtFor_154 rfl rfl ?_
  refine mg_35 (pc := 155) hP rfl dX8_doubtFor_155 ?_
  refine r_iload_n (pc := 158) dX8_doubtFor_158 rfl rfl ?_
  refine mln_11 (pc := 159) (a) hP ⟨rfl, ha20⟩ dX8_doubtFor_159 ?_
  refine r_if_le (pc := 160) (tgt := 167) dX8_doubtFor_160 (by decide) (fun h160 => ?_) (fun h160 => ?_)
  · refine r_aload_n (pc := 167) dX8_doubtFor_167 rfl rfl ?_
    refine mg_22 (pc := 168) hP rfl dX8_doubtFor_168 ?_
    refine r_iload_n (pc := 171) dX8_doubtFor_171 rfl rfl ?_
    refine mln_7 (pc := 172) (a) hP ⟨rfl, ha20⟩ dX8_doubtFor_172 ?_
    refine msn_7 (pc := 173) (a) hP ⟨rfl, ha20⟩ dX8_doubtFor_173 ?_
    refine r_vret (pc := 174) rfl dX8_doubtFor_174 ?_
    have g : ¬ 0 < (dbA (ar 4) R v drp 0 6 (ar 11 a)) := by have h8 := h160; rw [va_up_self, upd_s] at h8; exact Int32.not_lt.mpr h8
    rw [if_neg g]
    exact ⟨rfl, rfl⟩
  · refine r_iconst (pc := 163) (v := 3) dX8_doubtFor_163 (by decide) ?_
    refine r_goto (pc := 164) (tgt := 173) dX8_doubtFor_164 (by decide) ?_
    refine msn_7 (pc := 173) (a) hP ⟨rfl, ha20⟩ dX8_doubtFor_173 ?_
    refine r_vret (pc := 174) rfl dX8_doubtFor_174 ?_
    have g : 0 < (dbA (ar 4) R v drp 0 6 (ar 11 a)) := by have h8 := h160; rw [va_up_self, upd_s] at h8; exact Int32.not_le.mp h8
    rw [if_pos g]
    exact ⟨rfl, rfl⟩

set_option maxRecDepth 100000 in
set_option maxHeartbeats 4000000 in
theorem pu_drp {G : aw_G} {P T : List va_E} {sc0 : Nat → Int32} {ar0 : Nat → Nat → Int32} (hP : P.length = 12) {Q : aw_R → List va_E → Prop} {tn vn an : Nat} {R : Nat → List Int32} {vv : Nat → Nat} (hM : MI tn vn an R vv sc0 ar0) : ∀ (m k : Nat) (s : Int32) (sc : Nat → Int32) (ar : Nat → Nat → Int32), ag [] [21] sc0 ar0 sc ar → k + m = 10 → (∀ sc3 ar3, ag [] [21] sc0 ar0 sc3 ar3 → AW G fX8_publish 0 0 (mw P sc3 ar3 T) 61 [some (.ref 12), some (.int (drpU (ar0 4) R k m s)), none, none, none, none] [] Q) → AW G fX8_publish 0 0 (mw P sc ar T) 31 [some (.ref 12), some (.int s), some (.int (nI k)), none, none, none] [] Q := by
  intro m
  induction m with
  | zero =>
    intro k s sc ar hag hk kk
    refine r_iload_n (pc := 31) dX8_publish_31 rfl rfl ?_
    refine r_bipush (pc := 32) (v := 10) dX8_publish_32 (by decide) ?_
    refine r_icmp_ge (pc := 34) (tgt := 61) dX8_publish_34 (by decide) (fun h34 => ?_) (fun h => absurd (by rw [show k = 10 by omega]; decide) h)
    refine AW_drop 2 rfl ?_
    exact kk sc ar hag
  | succ m ih =>
    intro k s sc ar hag hk kk
    refine r_iload_n (pc := 31) dX8_publish_31 rfl rfl ?_
    refine r_bipush (pc := 32) (v := 10) dX8_publish_32 (by decide) ?_
    refine r_icmp_ge (pc := 34) (tgt := 61) dX8_publish_34 (by decide) (fun h => absurd h (nI_ge9 (b := 10) (by omega) (by decide))) (fun h34 => ?_)
    refine r_iload_n (pc := 37) dX8_publish_37 rfl rfl ?_
    refine r_aload_n (pc := 38) dX8_publish_38 rfl rfl ?_
    refine r_iload_n (pc := 39) dX8_publish_39 rfl rfl ?_
    refine s_X8_136 (pc := 40) (kc' := 0) (ks' := 0) rfl rfl (am_breaks hP (MI_ag hM hag (by decide) (by decide)) k (by omega)) (mw_o hP) (Nat.le_of_ble_eq_true rfl) (Nat.le_of_ble_eq_true rfl) (Nat.le_of_ble_eq_true rfl) (Nat.le_of_ble_eq_true rfl) (by exact (Nat.le_of_ble_eq_true rfl)) rfl (List.forall_mem_cons.mpr ⟨rfl, (List.forall_mem_cons.mpr ⟨rfl, fun _ h => nomatch h⟩)⟩) rfl dX8_publish_40 aw_kmt (aw_kmq (fun sc2 ar2 hag2 => ?_))
    refine r_if_eq (pc := 43) (tgt := 52) dX8_publish_43 (by decide) (fun h43 => ?_) (fun h43 => ?_)
    · refine r_iconst (pc := 52) (v := 0) dX8_publish_52 (by decide) ?_
      refine r_ior (pc := 53) dX8_publish_53 ?_
      refine r_istore_n (pc := 54) dX8_publish_54 rfl (Nat.le_of_ble_eq_true rfl) rfl ?_
      refine r_iincK (pc := 55) (k9 := 1) dX8_publish_55 (by decide) rfl (Nat.le_of_ble_eq_true rfl) rfl ?_
      refine r_goto (pc := 58) (tgt := 31) dX8_publish_58 (by decide) ?_
      have g := bi_eq.mp h43
      rw [hag.2 4 (by decide)] at g
      rw [nI_1]
      refine ih (k + 1) (s ||| 0) sc2 ar2 (ag_tr hag hag2) (by omega) (fun sc3 ar3 hag3 => ?_)
      rw [show drpU (ar0 4) R (k + 1) m (s ||| 0) = drpU (ar0 4) R k (m + 1) s by rw [drpU, g]; rfl]
      exact kk sc3 ar3 hag3
    · refine r_iconst (pc := 46) (v := 1) dX8_publish_46 (by decide) ?_
      refine r_iload_n (pc := 47) dX8_publish_47 rfl rfl ?_
      refine r_ishl (pc := 48) dX8_publish_48 ?_
      refine r_goto (pc := 49) (tgt := 53) dX8_publish_49 (by decide) ?_
      refine r_ior (pc := 53) dX8_publish_53 ?_
      refine r_istore_n (pc := 54) dX8_publish_54 rfl (Nat.le_of_ble_eq_true rfl) rfl ?_
      refine r_iincK (pc := 55) (k9 := 1) dX8_publish_55 (by decide) rfl (Nat.le_of_ble_eq_true rfl) rfl ?_
      refine r_goto (pc := 58) (tgt := 31) dX8_publish_58 (by decide) ?_
      have g := bi_ne.mp h43
      rw [hag.2 4 (by decide)] at g
      rw [nI_1]
      refine ih (k + 1) (s ||| 1 <<< (nI k &&& 31)) sc2 ar2 (ag_tr hag hag2) (by omega) (fun sc3 ar3 hag3 => ?_)
      rw [show drpU (ar0 4) R (k + 1) m (s ||| 1 <<< (nI k &&& 31)) = drpU (ar0 4) R k (m + 1) s by rw [drpU, g]; rfl]
      exact kk sc3 ar3 hag3
theorem vaup_4 {α : Type} {f : Nat → α} {x y p q : α} : va_up (va_up (va_up (va_up f 11 x) 7 y) 7 p) 11 q = va_up (va_up f 7 p) 11 q := by
  funext k
  unfold va_up
  by_cases h1 : k = 11 <;> by_cases h2 : k = 7 <;> simp [h1, h2]
theorem vaup_sw {α : Type} {f : Nat → α} {i j : Nat} (h : i ≠ j) {x y : α} : va_up (va_up f i x) j y = va_up (va_up f j y) i x := by
  funext k
  unfold va_up
  by_cases h1 : k = j
  · rw [if_pos h1, if_neg (by omega), if_pos h1]
  · rw [if_neg h1]
    by_cases h2 : k = i
    · rw [if_pos h2, if_pos h2]
    · rw [if_neg h2, if_neg h2, if_neg h1]
set_option maxRecDepth 100000 in
set_option maxHeartbeats 4000000 in
theorem pu_ans {G : aw_G} {P T : List va_E} {sc : Nat → Int32} (hP : P.length = 12) {Q : aw_R → List va_E → Prop} {tn vn an : Nat} {R : Nat → List Int32} {vv : Nat → Nat} (drp : Int32) : ∀ (m a : Nat) (ar : Nat → Nat → Int32), MI tn vn an R vv sc ar → a + m = an → AW G fX8_publish 0 0 (mw P sc (va_up (va_up ar 7 (pbA (ar 4) R vv drp a m (ar 7, ar 11)).1) 11 (pbA (ar 4) R vv drp a m (ar 7, ar 11)).2) T) 103 [some (.ref 12), some (.int drp), none, none, none, none] [] Q → AW G fX8_publish 0 0 (mw P sc ar T) 63 [some (.ref 12), some (.int drp), some (.int (nI a)), none, none, none] [] Q := by
  intro m
  induction m with
  | zero =>
    intro a ar hM hk kk
    refine r_iload_n (pc := 63) dX8_publish_63 rfl rfl ?_
    refine r_aload_n (pc := 64) dX8_publish_64 rfl rfl ?_
    refine mg_165 (pc := 65) hP rfl dX8_publish_65 ?_
    refine r_icmp_ge (pc := 68) (tgt := 103) dX8_publish_68 (by decide) (fun h68 => ?_) (fun h => absurd (by rw [hM.2.2.2.2.1, show a = an by omega]; exact Int32.le_refl _) h)
    refine AW_drop 2 rfl ?_
    rw [show pbA (ar 4) R vv drp a 0 (ar 7, ar 11) = (ar 7, ar 11) from rfl] at kk
    rw [show va_up (va_up ar 7 (ar 7, ar 11).1) 11 (ar 7, ar 11).2 = ar from by rw [show (ar 7, ar 11).1 = ar 7 from rfl, vaup_same]; exact vaup_same ar 11] at kk
    exact kk
  | succ m ih =>
    intro a ar hM hk kk
    refine r_iload_n (pc := 63) dX8_publish_63 rfl rfl ?_
    refine r_aload_n (pc := 64) dX8_publish_64 rfl rfl ?_
    refine mg_165 (pc := 65) hP rfl dX8_publish_65 ?_
    refine r_icmp_ge (pc := 68) (tgt := 103) dX8_publish_68 (by decide) (fun h => absurd h (by rw [hM.2.2.2.2.1]; exact nI_ge9 (by omega) (by have := hM.2.2.2.2.2.1; omega))) (fun h68 => ?_)
    refine r_aload_n (pc := 71) dX8_publish_71 rfl rfl ?_
    refine mg_22 (pc := 72) hP rfl dX8_publish_72 ?_
    refine r_iload_n (pc := 75) dX8_publish_75 rfl rfl ?_
    refine mln_7 (pc := 76) (a) hP ⟨rfl, by have := hM.2.2.2.2.2.1; omega⟩ dX8_publish_76 ?_
    refine r_iconst (pc := 77) (v := 1) dX8_publish_77 (by decide) ?_
    refine r_icmp_eq (pc := 78) (tgt := 91) dX8_publish_78 (by decide) (fun h78 => ?_) (fun h78 => ?_)
    · refine r_aload_n (pc := 91) dX8_publish_91 rfl rfl ?_
      refine r_iload_n (pc := 92) dX8_publish_92 rfl rfl ?_
      refine r_iload_n (pc := 93) dX8_publish_93 rfl rfl ?_
      refine s_X8_168 (pc := 94) (kc' := 0) (ks' := 0) rfl rfl (am_doubtFor hP (fun its hi => hM.2.2.2.2.2.2.1 its hi) a (by have := hM.2.2.2.2.2.1; omega) (vv a) (by have := (hM.2.2.2.2.2.2.2 a (by omega)).2; have := hM.2.2.2.1; omega) (hM.2.2.2.2.2.2.2 a (by omega)).1 drp) (mw_o hP) (Nat.le_of_ble_eq_true rfl) (Nat.le_of_ble_eq_true rfl) (Nat.le_of_ble_eq_true rfl) (Nat.le_of_ble_eq_true rfl) (by exact (Nat.le_of_ble_eq_true rfl)) rfl (List.forall_mem_cons.mpr ⟨rfl, (List.forall_mem_cons.mpr ⟨rfl, (List.forall_mem_cons.mpr ⟨rfl, fun _ h => nomatch h⟩)⟩)⟩) rfl dX8_publish_94 aw_kt (aw_kv ?_)
      refine r_iincK (pc := 97) (k9 := 1) dX8_publish_97 (by decide) rfl (Nat.le_of_ble_eq_true rfl) rfl ?_
      refine r_goto (pc := 100) (tgt := 63) dX8_publish_100 (by decide) ?_
      rw [nI_1]
      refine ih (a + 1) _ (MI_ag hM (ag_a (ag_a (ag_rf (Ks := []) (Ka := [7, 11]) (sc := sc) (ar := ar)) 11 _ (by decide)) 7 _ (by decide)) (by decide) (by decide)) (by omega) ?_
      rw [va_up_self, va_up_ne _ _ (show (4 : Nat) ≠ 7 by decide), va_up_ne _ _ (show (4 : Nat) ≠ 11 by decide), va_up_ne _ _ (show (11 : Nat) ≠ 7 by decide), va_up_self]
      rw [show pbA (ar 4) R vv drp (a + 1) m (upd (ar 7) a (if 0 < (dbA (ar 4) R (vv a) drp 0 6 (ar 11 a)) then 3 else ar 7 a), upd (ar 11) a (dbA (ar 4) R (vv a) drp 0 6 (ar 11 a))) = pbA (ar 4) R vv drp a (m + 1) (ar 7, ar 11) by rw [pbA, if_pos (show (ar 7, ar 11).1 a = 1 ∨ (ar 7, ar 11).1 a = 3 from Or.inl h78)]]
      rw [vaup_4]
      exact kk
    · refine r_aload_n (pc := 81) dX8_publish_81 rfl rfl ?_
      refine mg_22 (pc := 82) hP rfl dX8_publish_82 ?_
      refine r_iload_n (pc := 85) dX8_publish_85 rfl rfl ?_
      refine mln_7 (pc := 86) (a) hP ⟨rfl, by have := hM.2.2.2.2.2.1; omega⟩ dX8_publish_86 ?_
      refine r_iconst (pc := 87) (v := 3) dX8_publish_87 (by decide) ?_
      refine r_icmp_ne (pc := 88) (tgt := 97) dX8_publish_88 (by decide) (fun h88 => ?_) (fun h88 => ?_)
      · refine r_iincK (pc := 97) (k9 := 1) dX8_publish_97 (by decide) rfl (Nat.le_of_ble_eq_true rfl) rfl ?_
        refine r_goto (pc := 100) (tgt := 63) dX8_publish_100 (by decide) ?_
        rw [nI_1]
        refine ih (a + 1) ar hM (by omega) ?_
        rw [show pbA (ar 4) R vv drp (a + 1) m (ar 7, ar 11) = pbA (ar 4) R vv drp a (m + 1) (ar 7, ar 11) by rw [pbA, if_neg (fun z => z.elim h78 h88)]]
        exact kk
      · refine r_aload_n (pc := 91) dX8_publish_91 rfl rfl ?_
        refine r_iload_n (pc := 92) dX8_publish_92 rfl rfl ?_
        refine r_iload_n (pc := 93) dX8_publish_93 rfl rfl ?_
        refine s_X8_168 (pc := 94) (kc' := 0) (ks' := 0) rfl rfl (am_doubtFor hP (fun its hi => hM.2.2.2.2.2.2.1 its hi) a (by have := hM.2.2.2.2.2.1; omega) (vv a) (by have := (hM.2.2.2.2.2.2.2 a (by omega)).2; have := hM.2.2.2.1; omega) (hM.2.2.2.2.2.2.2 a (by omega)).1 drp) (mw_o hP) (Nat.le_of_ble_eq_true rfl) (Nat.le_of_ble_eq_true rfl) (Nat.le_of_ble_eq_true rfl) (Nat.le_of_ble_eq_true rfl) (by exact (Nat.le_of_ble_eq_true rfl)) rfl (List.forall_mem_cons.mpr ⟨rfl, (List.forall_mem_cons.mpr ⟨rfl, (List.forall_mem_cons.mpr ⟨rfl, fun _ h => nomatch h⟩)⟩)⟩) rfl dX8_publish_94 aw_kt (aw_kv ?_)
        refine r_iincK (pc := 97) (k9 := 1) dX8_publish_97 (by decide) rfl (Nat.le_of_ble_eq_true rfl) rfl ?_
        refine r_goto (pc := 100) (tgt := 63) dX8_publish_100 (by decide) ?_
        rw [nI_1]
        refine ih (a + 1) _ (MI_ag hM (ag_a (ag_a (ag_rf (Ks := []) (Ka := [7, 11]) (sc := sc) (ar := ar)) 11 _ (by decide)) 7 _ (by decide)) (by decide) (by decide)) (by omega) ?_
        rw [va_up_self, va_up_ne _ _ (show (4 : Nat) ≠ 7 by decide), va_up_ne _ _ (show (4 : Nat) ≠ 11 by decide), va_up_ne _ _ (show (11 : Nat) ≠ 7 by decide), va_up_self]
        rw [show pbA (ar 4) R vv drp (a + 1) m (upd (ar 7) a (if 0 < (dbA (ar 4) R (vv a) drp 0 6 (ar 11 a)) then 3 else ar 7 a), upd (ar 11) a (dbA (ar 4) R (vv a) drp 0 6 (ar 11 a))) = pbA (ar 4) R vv drp a (m + 1) (ar 7, ar 11) by rw [pbA, if_pos (show (ar 7, ar 11).1 a = 1 ∨ (ar 7, ar 11).1 a = 3 from Or.inr h88)]]
        rw [vaup_4]
        exact kk
set_option maxRecDepth 100000 in
set_option maxHeartbeats 4000000 in
theorem pu_typ {G : aw_G} {P T : List va_E} {sc : Nat → Int32} (hP : P.length = 12) {Q : aw_R → List va_E → Prop} (vn : Nat) (hvn : vn < 10) (drp : Int32) (ar0 : Nat → Nat → Int32) : ∀ (m f : Nat) (ar : Nat → Nat → Int32), f + m = 6 → ar 4 = pubT vn (ar0 4) f → (∀ k, k ≠ 4 → ar k = ar0 k) → (∀ ar3 : Nat → Nat → Int32, ar3 4 = pubT vn (ar0 4) 6 → (∀ k, k ≠ 4 → ar3 k = ar0 k) → AW G fX8_publish 0 0 (mw P sc ar3 T) 151 [some (.ref 12), some (.int drp), some (.int (nI vn)), none, none, none] [] Q) → AW G fX8_publish 0 0 (mw P sc ar T) 120 [some (.ref 12), some (.int drp), some (.int (nI vn)), some (.int (nI f)), none, none] [] Q := by
  intro m
  induction m with
  | zero =>
    intro f ar hk h4 ho kk
    refine r_iload_n (pc := 120) dX8_publish_120 rfl rfl ?_
    refine r_bipush (pc := 121) (v := 6) dX8_publish_121 (by decide) ?_
    refine r_icmp_ge (pc := 123) (tgt := 151) dX8_publish_123 (by decide) (fun h123 => ?_) (fun h => absurd (by rw [show f = 6 by omega]; decide) h)
    refine AW_drop 3 rfl ?_
    rw [show f = 6 by omega] at h4
    exact kk ar h4 ho
  | succ m ih =>
    intro f ar hk h4 ho kk
    refine r_iload_n (pc := 120) dX8_publish_120 rfl rfl ?_
    refine r_bipush (pc := 121) (v := 6) dX8_publish_121 (by decide) ?_
    refine r_icmp_ge (pc := 123) (tgt := 151) dX8_publish_123 (by decide) (fun h => absurd h (nI_ge9 (b := 6) (by omega) (by decide))) (fun h123 => ?_)
    refine r_aload_n (pc := 126) dX8_publish_126 rfl rfl ?_
    refine mg_19 (pc := 127) hP rfl dX8_publish_127 ?_
    refine r_bipush (pc := 130) (v := 6) dX8_publish_130 (by decide) ?_
    refine r_iload_n (pc := 132) dX8_publish_132 rfl rfl ?_
    refine r_iconst (pc := 133) (v := 1) dX8_publish_133 (by decide) ?_
    refine r_iadd (pc := 134) dX8_publish_134 ?_
    refine r_imul (pc := 135) dX8_publish_135 ?_
    refine r_iload_n (pc := 136) dX8_publish_136 rfl rfl ?_
    refine r_iadd (pc := 137) dX8_publish_137 ?_
    refine r_aload_n (pc := 138) dX8_publish_138 rfl rfl ?_
    refine mg_19 (pc := 139) hP rfl dX8_publish_139 ?_
    refine r_iload_n (pc := 142) dX8_publish_142 rfl rfl ?_
    refine mln_4 (pc := 143) (f) hP ⟨rfl, by omega⟩ dX8_publish_143 ?_
    refine msn_4 (pc := 144) (6 * (vn + 1) + f) hP ⟨by rw [nI_1, n6, nI_add], by omega⟩ dX8_publish_144 ?_
    refine r_iincK (pc := 145) (k9 := 1) dX8_publish_145 (by decide) rfl (Nat.le_of_ble_eq_true rfl) rfl ?_
    refine r_goto (pc := 148) (tgt := 120) dX8_publish_148 (by decide) ?_
    rw [nI_1]
    refine ih (f + 1) _ (by omega) ?_ ?_ kk
    · rw [va_up_self]
      funext j
      unfold pubT upd
      by_cases hj : j = 6 * (vn + 1) + f
      · subst hj
        rw [if_pos rfl, if_pos (by omega), h4]
        unfold pubT
        rw [if_neg (by omega)]
        congr 1
        omega
      · rw [if_neg hj, h4]
        unfold pubT
        by_cases h1 : 6 * (vn + 1) ≤ j ∧ j < 6 * (vn + 1) + f
        · rw [if_pos h1, if_pos (by omega)]
        · rw [if_neg h1, if_neg (by omega)]
    · intro k hk
      rw [va_up_ne _ _ hk]
      exact ho k hk
set_option maxRecDepth 100000 in
set_option maxHeartbeats 4000000 in
theorem pu_cp {G : aw_G} {P T : List va_E} {sc : Nat → Int32} (hP : P.length = 12) {Q : aw_R → List va_E → Prop} (vn f it : Nat) (drp : Int32) (row : List Int32) (ar1 : Nat → Nat → Int32) (hf : f < 10) (hit : it < 110) (hfi : 10 ≤ it) (hn40 : row.length ≤ 40) (hlen : ar1 3 it = nI row.length) (hsrc : ∀ j x, row[j]? = some x → ar1 2 (40 * f + j) = x) : ∀ (m i : Nat) (ar : Nat → Nat → Int32), i + m = row.length → (∀ j x, j < i → row[j]? = some x → ar 2 (40 * it + j) = x) → (∀ j, (j < 40 * it ∨ 40 * it + row.length ≤ j) → ar 2 j = ar1 2 j) → (∀ k, k ≠ 2 → ar k = ar1 k) → (∀ ar' : Nat → Nat → Int32, (∀ j x, row[j]? = some x → ar' 2 (40 * it + j) = x) → (∀ j, (j < 40 * it ∨ 40 * it + row.length ≤ j) → ar' 2 j = ar1 2 j) → (∀ k, k ≠ 2 → ar' k = ar1 k) → AW G fX8_publish 0 0 (mw P sc ar' T) 253 [some (.ref 12), some (.int drp), some (.int (nI vn)), some (.int (nI f)), none, none] [] Q) → AW G fX8_publish 0 0 (mw P sc ar T) 210 [some (.ref 12), some (.int drp), some (.int (nI vn)), some (.int (nI f)), some (.int (nI it)), some (.int (nI i))] [] Q := by
  intro m
  induction m with
  | zero =>
    intro i ar hi hd hk ho kk
    have hl3 : ar 3 it = nI row.length := by rw [ho 3 (by decide)]; exact hlen
    refine r_iload (pc := 210) dX8_publish_210 rfl ?_
    refine r_aload_n (pc := 212) dX8_publish_212 rfl rfl ?_
    refine mg_16 (pc := 213) hP rfl dX8_publish_213 ?_
    refine r_iload (pc := 216) dX8_publish_216 rfl ?_
    refine mln_3 (pc := 218) (it) hP ⟨rfl, hit⟩ dX8_publish_218 ?_
    refine r_icmp_ge (pc := 219) (tgt := 253) dX8_publish_219 (by decide) (fun h219 => ?_) (fun h => absurd (by rw [hl3, show i = row.length by omega]; exact Int32.le_refl _) h)
    refine AW_drop 5 rfl ?_
    refine AW_drop 4 rfl ?_
    exact kk ar (fun j x hx => hd j x (by have := (List.getElem?_eq_some_iff.mp hx).1; omega) hx) hk ho
  | succ m ih =>
    intro i ar hi hd hk ho kk
    have hl3 : ar 3 it = nI row.length := by rw [ho 3 (by decide)]; exact hlen
    refine r_iload (pc := 210) dX8_publish_210 rfl ?_
    refine r_aload_n (pc := 212) dX8_publish_212 rfl rfl ?_
    refine mg_16 (pc := 213) hP rfl dX8_publish_213 ?_
    refine r_iload (pc := 216) dX8_publish_216 rfl ?_
    refine mln_3 (pc := 218) (it) hP ⟨rfl, hit⟩ dX8_publish_218 ?_
    refine r_icmp_ge (pc := 219) (tgt := 253) dX8_publish_219 (by decide) (fun h => absurd h (by rw [hl3]; exact nI_ge9 (by omega) (by omega))) (fun h219 => ?_)
    refine r_aload_n (pc := 222) dX8_publish_222 rfl rfl ?_
    refine mg_13 (pc := 223) hP rfl dX8_publish_223 ?_
    refine r_bipush (pc := 226) (v := 40) dX8_publish_226 (by decide) ?_
    refine r_iload (pc := 228) dX8_publish_228 rfl ?_
    refine r_imul (pc := 230) dX8_publish_230 ?_
    refine r_iload (pc := 231) dX8_publish_231 rfl ?_
    refine r_iadd (pc := 233) dX8_publish_233 ?_
    refine r_aload_n (pc := 234) dX8_publish_234 rfl rfl ?_
    refine mg_13 (pc := 235) hP rfl dX8_publish_235 ?_
    refine r_bipush (pc := 238) (v := 40) dX8_publish_238 (by decide) ?_
    refine r_iload_n (pc := 240) dX8_publish_240 rfl rfl ?_
    refine r_imul (pc := 241) dX8_publish_241 ?_
    refine r_iload (pc := 242) dX8_publish_242 rfl ?_
    refine r_iadd (pc := 244) dX8_publish_244 ?_
    refine mln_2 (pc := 245) (40 * f + i) hP ⟨by rw [n40, nI_add], by omega⟩ dX8_publish_245 ?_
    refine msn_2 (pc := 246) (40 * it + i) hP ⟨by rw [n40, nI_add], by omega⟩ dX8_publish_246 ?_
    refine r_iincK (pc := 247) (k9 := 1) dX8_publish_247 (by decide) rfl (Nat.le_of_ble_eq_true rfl) rfl ?_
    refine r_goto (pc := 250) (tgt := 210) dX8_publish_250 (by decide) ?_
    have hl3 : ar 3 it = nI row.length := by rw [ho 3 (by decide)]; exact hlen
    rw [nI_1]
    refine ih (i + 1) _ (by omega) ?_ ?_ ?_ kk
    · intro j x hj hx
      rw [va_up_self]
      by_cases hji : j = i
      · subst hji
        rw [upd_s, hk (40 * f + j) (by omega)]
        exact hsrc j x hx
      · rw [upd_n _ _ (by omega)]
        exact hd j x (by omega) hx
    · intro j hj
      rw [va_up_self, upd_n _ _ (by omega)]
      exact hk j hj
    · intro k hk2
      rw [va_up_ne _ _ hk2]
      exact ho k hk2
theorem pub_step {vn f : Nat} {drp : Int32} {R : Nat → List Int32} {ar ar5 : Nat → Nat → Int32} (hvn : vn < 10) (hf : f < 10) (hRi : (∀ its, its < 110 → crow ar its (pubR vn drp R f its) ∧ (pubR vn drp R f its = [] ∨ wfr (pubR vn drp R f its)))) (hR : ∀ its, its < 110 → (R its = [] ∨ wfr (R its))) (hkl : (keepR drp R f).length ≤ 40)
    (h3 : ar5 3 = va_up ar 3 (upd (upd (ar 3) f (nI (keepR drp R f).length)) (10 * (vn + 1) + f) (nI (keepR drp R f).length)) 3) (q1 : ∀ j x, (keepR drp R f)[j]? = some x → ar5 2 (40 * (10 * (vn + 1) + f) + j) = x) (q2 : ∀ j, (j < 40 * (10 * (vn + 1) + f) ∨ 40 * (10 * (vn + 1) + f) + (keepR drp R f).length ≤ j) → ar5 2 j = ar 2 j) : (∀ its, its < 110 → crow ar5 its (pubR vn drp R (f + 1) its) ∧ (pubR vn drp R (f + 1) its = [] ∨ wfr (pubR vn drp R (f + 1) its))) := by
  intro its hi
  have hkw : keepR drp R f = [] ∨ wfr (keepR drp R f) := by
    unfold keepR
    split
    · exact Or.inl rfl
    · exact hR f (by omega)
  rw [va_up_self] at h3
  by_cases h1 : its = f
  · subst h1
    have e : pubR vn drp R (its + 1) its = keepR drp R its := by unfold pubR; rw [if_pos (by omega)]
    rw [e]
    refine ⟨⟨hi, hkl, ?_, fun i x hx => ?_⟩, hkw⟩
    · rw [h3, upd_n _ _ (by omega), upd_s]
    · have hc := (hRi its hi).1
      rw [show pubR vn drp R its its = R its by unfold pubR; rw [if_neg (by omega), if_neg (by omega)]] at hc
      have hil := (List.getElem?_eq_some_iff.mp hx).1
      rw [q2 (40 * its + i) (by omega)]
      refine hc.2.2.2 i x ?_
      unfold keepR at hx
      split at hx
      · cases hx
      · exact hx
  · by_cases h2 : its = (10 * (vn + 1) + f)
    · subst h2
      have e : pubR vn drp R (f + 1) (10 * (vn + 1) + f) = keepR drp R f := by unfold pubR; rw [if_neg (by omega), if_pos (by omega)]; congr 1; omega
      rw [e]
      exact ⟨⟨hi, hkl, by rw [h3, upd_s], q1⟩, hkw⟩
    · have e : pubR vn drp R (f + 1) its = pubR vn drp R f its := by
        unfold pubR
        by_cases g1 : its < f
        · rw [if_pos g1, if_pos (by omega)]
        · rw [if_neg g1, if_neg (by omega)]
          by_cases g2 : 10 * (vn + 1) ≤ its ∧ its < 10 * (vn + 1) + f
          · rw [if_pos g2, if_pos (by omega)]
          · rw [if_neg g2, if_neg (by omega)]
      rw [e]
      obtain ⟨⟨c1, c2, c3, c4⟩, c5⟩ := hRi its hi
      refine ⟨⟨c1, c2, ?_, fun i x hx => ?_⟩, c5⟩
      · rw [h3, upd_n _ _ h2, upd_n _ _ h1]; exact c3
      · have hil := (List.getElem?_eq_some_iff.mp hx).1
        rw [q2 (40 * its + i) (by omega)]
        exact c4 i x hx
set_option maxRecDepth 100000 in
set_option maxHeartbeats 4000000 in
theorem pu_for {G : aw_G} {P T : List va_E} {sc : Nat → Int32} (hP : P.length = 12) {Q : aw_R → List va_E → Prop} (vn : Nat) (hvn : vn < 10) (drp : Int32) (R : Nat → List Int32) (hR : ∀ its, its < 110 → (R its = [] ∨ wfr (R its))) (ar0 : Nat → Nat → Int32) (kk : ∀ ar3 : Nat → Nat → Int32, (∀ its, its < 110 → crow ar3 its (pubR vn drp R 10 its) ∧ (pubR vn drp R 10 its = [] ∨ wfr (pubR vn drp R 10 its))) → (∀ k, k ∉ [2, 3] → ar3 k = ar0 k) → Q (.inl (some (.int (nI vn)))) (mw P sc ar3 T)) : ∀ (m f : Nat) (ar : Nat → Nat → Int32), f + m = 10 → (∀ its, its < 110 → crow ar its (pubR vn drp R f its) ∧ (pubR vn drp R f its = [] ∨ wfr (pubR vn drp R f its))) → (∀ k, k ∉ [2, 3] → ar k = ar0 k) → AW G fX8_publish 0 0 (mw P sc ar T) 153 [some (.ref 12), some (.int drp), some (.int (nI vn)), some (.int (nI f)), none, none] [] Q := by
  intro m
  induction m with
  | zero =>
    intro f ar hk hRi ho
    refine r_iload_n (pc := 153) dX8_publish_153 rfl rfl ?_
    refine r_bipush (pc := 154) (v := 10) dX8_publish_154 (by decide) ?_
    refine r_icmp_ge (pc := 156) (tgt := 259) dX8_publish_156 (by decide) (fun h156 => ?_) (fun h => absurd (by rw [show f = 10 by omega]; decide) h)
    refine r_iload_n (pc := 259) dX8_publish_259 rfl rfl ?_
    refine r_iret (pc := 260) rfl rfl dX8_publish_260 ?_
    rw [show f = 10 by omega] at hRi
    exact kk ar hRi ho
  | succ m ih =>
    intro f ar hk hRi ho
    refine r_iload_n (pc := 153) dX8_publish_153 rfl rfl ?_
    refine r_bipush (pc := 154) (v := 10) dX8_publish_154 (by decide) ?_
    refine r_icmp_ge (pc := 156) (tgt := 259) dX8_publish_156 (by decide) (fun h => absurd h (nI_ge9 (b := 10) (by omega) (by decide))) (fun h156 => ?_)
    refine r_bipush (pc := 159) (v := 10) dX8_publish_159 (by decide) ?_
    refine r_iload_n (pc := 161) dX8_publish_161 rfl rfl ?_
    refine r_iconst (pc := 162) (v := 1) dX8_publish_162 (by decide) ?_
    refine r_iadd (pc := 163) dX8_publish_163 ?_
    refine r_imul (pc := 164) dX8_publish_164 ?_
    refine r_iload_n (pc := 165) dX8_publish_165 rfl rfl ?_
    refine r_iadd (pc := 166) dX8_publish_166 ?_
    rw [nI_1, n10, nI_add]
    refine r_istore (pc := 167) dX8_publish_167 (Nat.le_of_ble_eq_true rfl) rfl ?_
    refine r_aload_n (pc := 169) dX8_publish_169 rfl rfl ?_
    refine mg_16 (pc := 170) hP rfl dX8_publish_170 ?_
    refine r_iload_n (pc := 173) dX8_publish_173 rfl rfl ?_
    refine r_iload_n (pc := 174) dX8_publish_174 rfl rfl ?_
    refine r_iload_n (pc := 175) dX8_publish_175 rfl rfl ?_
    refine r_ishr (pc := 176) dX8_publish_176 ?_
    refine r_iconst (pc := 177) (v := 1) dX8_publish_177 (by decide) ?_
    refine r_iand (pc := 178) dX8_publish_178 ?_
    refine r_iconst (pc := 179) (v := 1) dX8_publish_179 (by decide) ?_
    refine r_icmp_ne (pc := 180) (tgt := 187) dX8_publish_180 (by decide) (fun h180 => ?_) (fun h180 => ?_)
    · refine r_aload_n (pc := 187) dX8_publish_187 rfl rfl ?_
      refine mg_16 (pc := 188) hP rfl dX8_publish_188 ?_
      refine r_iload_n (pc := 191) dX8_publish_191 rfl rfl ?_
      refine mln_3 (pc := 192) (f) hP ⟨rfl, by omega⟩ dX8_publish_192 ?_
      refine msn_3 (pc := 193) (f) hP ⟨rfl, by omega⟩ dX8_publish_193 ?_
      refine r_aload_n (pc := 194) dX8_publish_194 rfl rfl ?_
      refine mg_16 (pc := 195) hP rfl dX8_publish_195 ?_
      refine r_iload (pc := 198) dX8_publish_198 rfl ?_
      refine r_aload_n (pc := 200) dX8_publish_200 rfl rfl ?_
      refine mg_16 (pc := 201) hP rfl dX8_publish_201 ?_
      refine r_iload_n (pc := 204) dX8_publish_204 rfl rfl ?_
      refine mln_3 (pc := 205) (f) hP ⟨rfl, by omega⟩ dX8_publish_205 ?_
      refine msn_3 (pc := 206) ((10 * (vn + 1) + f)) hP ⟨rfl, by omega⟩ dX8_publish_206 ?_
      refine r_iconst (pc := 207) (v := 0) dX8_publish_207 (by decide) ?_
      refine r_istore (pc := 208) dX8_publish_208 (Nat.le_of_ble_eq_true rfl) rfl ?_
      skip
      have hkeep : keepR drp R f = R f := if_neg (by rw [show bitI drp f = false from decide_eq_false h180]; decide)
      have hcf := (hRi f (by omega)).1
      have hRf : pubR vn drp R f f = R f := by unfold pubR; rw [if_neg (by omega), if_neg (by omega)]
      rw [hRf] at hcf
      have hkl : (keepR drp R f).length ≤ 40 := by rw [hkeep]; exact hcf.2.1
      have e3 : va_up (va_up ar 3 (upd (ar 3) f (ar 3 f))) 3 (upd (va_up ar 3 (upd (ar 3) f (ar 3 f)) 3) (10 * (vn + 1) + f) (va_up ar 3 (upd (ar 3) f (ar 3 f)) 3 f)) = va_up ar 3 (upd (upd (ar 3) f (nI (keepR drp R f).length)) (10 * (vn + 1) + f) (nI (keepR drp R f).length)) := by
        rw [vaup_u, va_up_self, upd_s, show ar 3 f = nI (keepR drp R f).length from by rw [hkeep]; exact hcf.2.2.1]
      rw [e3]
      refine pu_cp hP vn f (10 * (vn + 1) + f) drp (keepR drp R f) (va_up ar 3 (upd (upd (ar 3) f (nI (keepR drp R f).length)) (10 * (vn + 1) + f) (nI (keepR drp R f).length))) (by omega) (by omega) (by omega) hkl (by rw [va_up_self, upd_s]) (fun j x hx => ?_) (keepR drp R f).length 0 _ (Nat.zero_add _) (fun j x hj => absurd hj (Nat.not_lt_zero _)) (fun j _ => rfl) (fun k _ => rfl) (fun ar5 q1 q2 q3 => ?_)
      · rw [va_up_ne _ _ (by decide)]
        rw [hkeep] at hx; exact hcf.2.2.2 j x hx
      ·
        refine r_iincK (pc := 253) (k9 := 1) dX8_publish_253 (by decide) rfl (Nat.le_of_ble_eq_true rfl) rfl ?_
        refine r_goto (pc := 256) (tgt := 153) dX8_publish_256 (by decide) ?_
        rw [nI_1]
        refine ih (f + 1) ar5 (by omega) ?_ (fun k hk => ?_)
        · exact pub_step hvn (by omega) hRi hR hkl (q3 3 (by decide)) q1 (fun j hj => (q2 j hj).trans (by rw [va_up_ne _ _ (by decide)]))
        · rw [q3 k (fun z => hk (by rw [z]; decide)), va_up_ne _ _ (fun z => hk (by rw [z]; decide))]
          exact ho k hk
    · refine r_iconst (pc := 183) (v := 0) dX8_publish_183 (by decide) ?_
      refine r_goto (pc := 184) (tgt := 193) dX8_publish_184 (by decide) ?_
      refine msn_3 (pc := 193) (f) hP ⟨rfl, by omega⟩ dX8_publish_193 ?_
      refine r_aload_n (pc := 194) dX8_publish_194 rfl rfl ?_
      refine mg_16 (pc := 195) hP rfl dX8_publish_195 ?_
      refine r_iload (pc := 198) dX8_publish_198 rfl ?_
      refine r_aload_n (pc := 200) dX8_publish_200 rfl rfl ?_
      refine mg_16 (pc := 201) hP rfl dX8_publish_201 ?_
      refine r_iload_n (pc := 204) dX8_publish_204 rfl rfl ?_
      refine mln_3 (pc := 205) (f) hP ⟨rfl, by omega⟩ dX8_publish_205 ?_
      refine msn_3 (pc := 206) ((10 * (vn + 1) + f)) hP ⟨rfl, by omega⟩ dX8_publish_206 ?_
      refine r_iconst (pc := 207) (v := 0) dX8_publish_207 (by decide) ?_
      refine r_istore (pc := 208) dX8_publish_208 (Nat.le_of_ble_eq_true rfl) rfl ?_
      skip
      have hkeep : keepR drp R f = [] := if_pos (decide_eq_true h180)
      have hcf := (hRi f (by omega)).1
      have hRf : pubR vn drp R f f = R f := by unfold pubR; rw [if_neg (by omega), if_neg (by omega)]
      rw [hRf] at hcf
      have hkl : (keepR drp R f).length ≤ 40 := by rw [hkeep]; simp
      have e3 : va_up (va_up ar 3 (upd (ar 3) f (0))) 3 (upd (va_up ar 3 (upd (ar 3) f (0)) 3) (10 * (vn + 1) + f) (va_up ar 3 (upd (ar 3) f (0)) 3 f)) = va_up ar 3 (upd (upd (ar 3) f (nI (keepR drp R f).length)) (10 * (vn + 1) + f) (nI (keepR drp R f).length)) := by
        rw [vaup_u, va_up_self, upd_s, show 0 = nI (keepR drp R f).length from by rw [hkeep]; rfl]
      rw [e3]
      refine pu_cp hP vn f (10 * (vn + 1) + f) drp (keepR drp R f) (va_up ar 3 (upd (upd (ar 3) f (nI (keepR drp R f).length)) (10 * (vn + 1) + f) (nI (keepR drp R f).length))) (by omega) (by omega) (by omega) hkl (by rw [va_up_self, upd_s]) (fun j x hx => ?_) (keepR drp R f).length 0 _ (Nat.zero_add _) (fun j x hj => absurd hj (Nat.not_lt_zero _)) (fun j _ => rfl) (fun k _ => rfl) (fun ar5 q1 q2 q3 => ?_)
      · rw [va_up_ne _ _ (by decide)]
        rw [hkeep] at hx; cases hx
      ·
        refine r_iincK (pc := 253) (k9 := 1) dX8_publish_253 (by decide) rfl (Nat.le_of_ble_eq_true rfl) rfl ?_
        refine r_goto (pc := 256) (tgt := 153) dX8_publish_256 (by decide) ?_
        rw [nI_1]
        refine ih (f + 1) ar5 (by omega) ?_ (fun k hk => ?_)
        · exact pub_step hvn (by omega) hRi hR hkl (q3 3 (by decide)) q1 (fun j hj => (q2 j hj).trans (by rw [va_up_ne _ _ (by decide)]))
        · rw [q3 k (fun z => hk (by rw [z]; decide)), va_up_ne _ _ (fun z => hk (by rw [z]; decide))]
          exact ho k hk
def puC (tn vn an : Nat) (R : Nat → List Int32) (vv : Nat → Nat) (sc : Nat → Int32) (ar : Nat → Nat → Int32) (v : Int32) (sc2 : Nat → Int32) (ar2 : Nat → Nat → Int32) : Prop :=
  (vn = 10 ∧ sc2 = upd sc 12 1 ∧ ar2 = ar) ∨ (vn < 10 ∧ v = nI vn ∧ sc2 12 = 0 ∧ ag [5, 12] [2, 3, 4, 7, 11, 21] sc ar sc2 ar2 ∧ MI tn (vn + 1) an (pubR vn (drpU (ar 4) R 0 10 0) R 10) vv sc2 ar2 ∧ ar2 4 = pubT vn (ar 4) 6 ∧ ar2 7 = (pbA (ar 4) R vv (drpU (ar 4) R 0 10 0) 0 an (ar 7, ar 11)).1 ∧ ar2 11 = (pbA (ar 4) R vv (drpU (ar 4) R 0 10 0) 0 an (ar 7, ar 11)).2)
set_option maxRecDepth 100000 in
set_option maxHeartbeats 4000000 in
theorem am_publish {G : aw_G} {P T : List va_E} {sc : Nat → Int32} {ar : Nat → Nat → Int32} (hP : P.length = 12) {tn vn an : Nat} {R : Nat → List Int32} {vv : Nat → Nat} (hM : MI tn vn an R vv sc ar) : AM G fX8_publish [.ref 12] (mw P sc ar T) (qe P T (puC tn vn an R vv sc ar)) := by
  refine AM_of (by decide) rfl rfl (Nat.le_of_ble_eq_true rfl) ?_
  show AW G fX8_publish 0 0 (mw P sc ar T) 0 [some (.ref 12), none, none, none, none, none] [] _
  refine r_aload_n (pc := 0) dX8_publish_0 rfl rfl ?_
  refine r_aload_n (pc := 1) dX8_publish_1 rfl rfl ?_
  refine mg_162 (pc := 2) hP rfl dX8_publish_2 ?_
  refine r_bipush (pc := 5) (v := 10) dX8_publish_5 (by decide) ?_
  refine r_icmp_ne (pc := 7) (tgt := 14) dX8_publish_7 (by decide) (fun h7 => ?_) (fun h7 => ?_)
  · refine r_iconst (pc := 14) (v := 0) dX8_publish_14 (by decide) ?_
    refine mp_66 (pc := 15) hP rfl dX8_publish_15 ?_
    refine r_aload_n (pc := 18) dX8_publish_18 rfl rfl ?_
    refine mgv_66 (pc := 19) (x := 0) hP rfl rfl dX8_publish_19 ?_
    refine r_if_le (pc := 22) (tgt := 27) dX8_publish_22 (by decide) (fun _ => ?_) (fun h => absurd h (by decide))
    have hvn : vn < 10 := by
      have h9 : vn ≠ 10 := fun z => h7 (by rw [hM.2.2.1, z]; rfl)
      have := hM.2.2.2.1
      omega
    refine r_iconst (pc := 27) (v := 0) dX8_publish_27 (by decide) ?_
    refine r_istore_n (pc := 28) dX8_publish_28 rfl (Nat.le_of_ble_eq_true rfl) rfl ?_
    refine r_iconst (pc := 29) (v := 0) dX8_publish_29 (by decide) ?_
    refine r_istore_n (pc := 30) dX8_publish_30 rfl (Nat.le_of_ble_eq_true rfl) rfl ?_
    have hM1 := MI_ag hM (ag_s (ag_rf (Ks := [12]) (Ka := []) (sc := sc) (ar := ar)) 12 0 (by decide)) (by decide) (by decide)
    refine pu_drp hP hM1 10 0 0 _ _ ag_rf rfl (fun sc3 ar3 hag3 => ?_)
    refine r_iconst (pc := 61) (v := 0) dX8_publish_61 (by decide) ?_
    refine r_istore_n (pc := 62) dX8_publish_62 rfl (Nat.le_of_ble_eq_true rfl) rfl ?_
    have hM3 := MI_ag hM1 hag3 (by decide) (by decide)
    refine pu_ans hP (drpU (ar 4) R 0 10 0) an 0 ar3 hM3 (Nat.zero_add _) ?_
    have h5 : sc3 5 = nI vn := hM3.2.2.1
    refine r_aload_n (pc := 103) dX8_publish_103 rfl rfl ?_
    refine mg_162 (pc := 104) hP rfl dX8_publish_104 ?_
    rw [h5]
    refine r_istore_n (pc := 107) dX8_publish_107 rfl (Nat.le_of_ble_eq_true rfl) rfl ?_
    refine r_aload_n (pc := 108) dX8_publish_108 rfl rfl ?_
    refine r_dup (pc := 109) dX8_publish_109 rfl ?_
    refine mg_162 (pc := 110) hP rfl dX8_publish_110 ?_
    rw [h5]
    refine r_iconst (pc := 113) (v := 1) dX8_publish_113 (by decide) ?_
    refine r_iadd (pc := 114) dX8_publish_114 ?_
    rw [nI_1]
    refine mp_162 (pc := 115) hP rfl dX8_publish_115 ?_
    refine r_iconst (pc := 118) (v := 0) dX8_publish_118 (by decide) ?_
    refine r_istore_n (pc := 119) dX8_publish_119 rfl (Nat.le_of_ble_eq_true rfl) rfl ?_
    refine pu_typ hP vn hvn (drpU (ar 4) R 0 10 0) (va_up (va_up ar3 7 (pbA (ar3 4) R vv (drpU (ar 4) R 0 10 0) 0 an (ar3 7, ar3 11)).1) 11 (pbA (ar3 4) R vv (drpU (ar 4) R 0 10 0) 0 an (ar3 7, ar3 11)).2) 6 0 _ rfl ?_ (fun k _ => rfl) (fun ar4 g4 go => ?_)
    · funext j
      unfold pubT
      rw [if_neg (by omega)]
    ·
      refine r_iconst (pc := 151) (v := 0) dX8_publish_151 (by decide) ?_
      refine r_istore_n (pc := 152) dX8_publish_152 rfl (Nat.le_of_ble_eq_true rfl) rfl ?_
      have hag4 : ∀ k, k ∉ [4, 7, 11, 21] → ar4 k = ar k := fun k hk => by
        rw [go k (fun z => hk (by rw [z]; decide)), va_up_ne _ _ (fun z => hk (by rw [z]; decide)), va_up_ne _ _ (fun z => hk (by rw [z]; decide))]
        exact hag3.2 k (fun z => hk (by simp at z; rw [z]; decide))
      refine pu_for hP vn hvn (drpU (ar 4) R 0 10 0) R (fun its hi => (hM.2.2.2.2.2.2.1 its hi).2) ar4 (fun ar5 hR5 ho5 => ?_) 10 0 ar4 rfl (fun its hi => ?_) (fun k _ => rfl)
      · have e5 : ∀ k, k ∉ [2, 3, 4, 7, 11, 21] → ar5 k = ar k := fun k hk => (ho5 k (fun z => hk (by simp at z ⊢; omega))).trans (hag4 k (fun z => hk (by simp at z ⊢; omega)))
        have es : ∀ k, k ∉ [5, 12] → upd sc3 5 (nI (vn + 1)) k = sc k := fun k hk => by
          rw [upd_n _ _ (fun z => hk (by rw [z]; decide)), hag3.1 k (by simp), upd_n _ _ (fun z => hk (by rw [z]; decide))]
        refine ⟨_, _, _, rfl, rfl, Or.inr ⟨hvn, rfl, ?_, ⟨es, e5⟩, ?_, ?_, ?_, ?_⟩⟩
        · rw [upd_n _ _ (by decide), hag3.1 12 (by decide), upd_s]
        · obtain ⟨a1, a2, a3, a4, a5, a6, a7, a8⟩ := hM
          refine ⟨(es 1 (by decide)).trans a1, a2, upd_s _ _ _, hvn, (es 6 (by decide)).trans a5, a6, hR5, fun a ha => ?_⟩
          rw [e5 8 (by decide)]
          exact ⟨(a8 a ha).1, Nat.lt_succ_of_lt (a8 a ha).2⟩
        · rw [ho5 4 (by decide), g4, va_up_ne _ _ (by decide), va_up_ne _ _ (by decide), hag3.2 4 (by decide)]
        · rw [ho5 7 (by decide), go 7 (by decide), va_up_ne _ _ (by decide), va_up_self, hag3.2 4 (by decide), hag3.2 7 (by decide), hag3.2 11 (by decide)]
        · rw [ho5 11 (by decide), go 11 (by decide), va_up_self, hag3.2 4 (by decide), hag3.2 7 (by decide), hag3.2 11 (by decide)]
      · have e0 : pubR vn (drpU (ar 4) R 0 10 0) R 0 its = R its := by unfold pubR; rw [if_neg (by omega), if_neg (by omega)]
        rw [e0]
        refine ⟨?_, (hM.2.2.2.2.2.2.1 its hi).2⟩
        unfold crow
        rw [hag4 2 (by decide), hag4 3 (by decide)]
        exact (hM.2.2.2.2.2.2.1 its hi).1
  · refine r_iconst (pc := 10) (v := 1) dX8_publish_10 (by decide) ?_
    refine r_goto (pc := 11) (tgt := 15) dX8_publish_11 (by decide) ?_
    refine mp_66 (pc := 15) hP rfl dX8_publish_15 ?_
    refine r_aload_n (pc := 18) dX8_publish_18 rfl rfl ?_
    refine mgv_66 (pc := 19) (x := 1) hP rfl rfl dX8_publish_19 ?_
    refine r_if_le (pc := 22) (tgt := 27) dX8_publish_22 (by decide) (fun h => absurd h (by decide)) (fun _ => ?_)
    refine r_iconst (pc := 25) (v := 0) dX8_publish_25 (by decide) ?_
    refine r_iret (pc := 26) rfl rfl dX8_publish_26 ?_
    exact ⟨0, _, _, rfl, rfl, Or.inl ⟨(nI_eq (b := 10) (by have := hM.2.2.2.1; omega) (by decide)).mp (hM.2.2.1.symm.trans h7), rfl, rfl⟩⟩

end M10
