/-! ===== the reference: types and order of versions ===== -/
section M7
set_option maxRecDepth 100000 in
set_option maxHeartbeats 4000000 in
theorem am_typeAt {G : aw_G} {P T : List va_E} {sc : Nat → Int32} {ar : Nat → Nat → Int32} (hP : P.length = 12) (v f : Nat) (hv : v < 10) (hf : f < 6) : AM G fX8_typeAt [.ref 12, .int (nI v), .int (nI f)] (mw P sc ar T) (qx (.inl (some (.int (ar 4 (6 * (v + 1) + f))))) (mw P sc ar T)) := by
  refine AM_of (by decide) rfl rfl (Nat.le_of_ble_eq_true rfl) ?_
  show AW G fX8_typeAt 0 0 (mw P sc ar T) 0 [some (.ref 12), some (.int (nI v)), some (.int (nI f))] [] _
  refine r_aload_n (pc := 0) dX8_typeAt_0 rfl rfl ?_
  refine mg_19 (pc := 1) hP rfl dX8_typeAt_1 ?_
  refine r_bipush (pc := 4) (v := 6) dX8_typeAt_4 (by decide) ?_
  refine r_iload_n (pc := 6) dX8_typeAt_6 rfl rfl ?_
  refine r_iconst (pc := 7) (v := 1) dX8_typeAt_7 (by decide) ?_
  refine r_iadd (pc := 8) dX8_typeAt_8 ?_
  refine r_imul (pc := 9) dX8_typeAt_9 ?_
  refine r_iload_n (pc := 10) dX8_typeAt_10 rfl rfl ?_
  refine r_iadd (pc := 11) dX8_typeAt_11 ?_
  refine mln_4 (pc := 12) (6 * (v + 1) + f) hP ⟨by rw [nI_1, n6, nI_add], by omega⟩ dX8_typeAt_12 ?_
  refine r_iret (pc := 13) rfl rfl dX8_typeAt_13 ?_
  exact ⟨rfl, rfl⟩

set_option maxRecDepth 100000 in
set_option maxHeartbeats 4000000 in
theorem am_isComputed {G : aw_G} {P T : List va_E} {sc : Nat → Int32} {ar : Nat → Nat → Int32} (hP : P.length = 12) {R : Nat → List Int32} (hR : ∀ its, its < 110 → crow ar its (R its) ∧ (R its = [] ∨ wfr (R its))) (v f : Nat) (hv : v < 10) (hf : f < 10) : AM G fX8_isComputed [.ref 12, .int (nI v), .int (nI f)] (mw P sc ar T) (qx (.inl (some (.int (bi (decide (R (10 * (v + 1) + f) ≠ [])))))) (mw P sc ar T)) := by
  refine AM_of (by decide) rfl rfl (Nat.le_of_ble_eq_true rfl) ?_
  show AW G fX8_isComputed 0 0 (mw P sc ar T) 0 [some (.ref 12), some (.int (nI v)), some (.int (nI f))] [] _
  refine r_aload_n (pc := 0) dX8_isComputed_0 rfl rfl ?_
  refine mg_16 (pc := 1) hP rfl dX8_isComputed_1 ?_
  refine r_bipush (pc := 4) (v := 10) dX8_isComputed_4 (by decide) ?_
  refine r_iload_n (pc := 6) dX8_isComputed_6 rfl rfl ?_
  refine r_iconst (pc := 7) (v := 1) dX8_isComputed_7 (by decide) ?_
  refine r_iadd (pc := 8) dX8_isComputed_8 ?_
  refine r_imul (pc := 9) dX8_isComputed_9 ?_
  refine r_iload_n (pc := 10) dX8_isComputed_10 rfl rfl ?_
  refine r_iadd (pc := 11) dX8_isComputed_11 ?_
  refine mln_3 (pc := 12) (10 * (v + 1) + f) hP ⟨by rw [nI_1, n10, nI_add], by omega⟩ dX8_isComputed_12 ?_
  refine r_if_le (pc := 13) (tgt := 20) dX8_isComputed_13 (by decide) (fun h13 => ?_) (fun h13 => ?_)
  · refine r_iconst (pc := 20) (v := 0) dX8_isComputed_20 (by decide) ?_
    refine r_iret (pc := 21) rfl rfl dX8_isComputed_21 ?_
    have hc := (hR (10 * (v + 1) + f) (by omega)).1
    have hq := len_pos hc.2.2.1 hc.2.1
    have h9 := hq.mp h13
    exact ⟨by simp [bi, h9], rfl⟩
  · refine r_iconst (pc := 16) (v := 1) dX8_isComputed_16 (by decide) ?_
    refine r_goto (pc := 17) (tgt := 21) dX8_isComputed_17 (by decide) ?_
    refine r_iret (pc := 21) rfl rfl dX8_isComputed_21 ?_
    have hc := (hR (10 * (v + 1) + f) (by omega)).1
    have hq := len_pos hc.2.2.1 hc.2.1
    have h9 : ¬ R (10 * (v + 1) + f) = [] := fun z => h13 (hq.mpr z)
    exact ⟨by simp [bi, h9], rfl⟩

set_option maxRecDepth 100000 in
set_option maxHeartbeats 4000000 in
theorem lo_oth {G : aw_G} {P T : List va_E} {sc : Nat → Int32} {ar : Nat → Nat → Int32} (hP : P.length = 12) {R : Nat → List Int32} (hR : ∀ its, its < 110 → crow ar its (R its) ∧ (R its = [] ∨ wfr (R its))) {Q : aw_R → List va_E → Prop} (v mn r k : Nat) (dn : Int32) (hv : v < 10) (hk : k < 6) : ∀ (m o : Nat) (can : Bool), o + m = 6 → AW G fX8_layOrder 0 0 (mw P sc ar T) 136 [some (.ref 12), some (.int (nI v)), some (.int dn), some (.int (nI mn)), some (.int (nI r)), some (.int (-1)), some (.int (nI k)), some (.int (bi (canO (fun o => R (10 * (v + 1) + o)) dn k o m can))), none, none] [] Q → AW G fX8_layOrder 0 0 (mw P sc ar T) 62 [some (.ref 12), some (.int (nI v)), some (.int dn), some (.int (nI mn)), some (.int (nI r)), some (.int (-1)), some (.int (nI k)), some (.int (bi can)), some (.int (nI o)), none] [] Q := by
  intro m
  induction m with
  | zero =>
    intro o can hl kk
    refine r_iload (pc := 62) dX8_layOrder_62 rfl ?_
    refine r_bipush (pc := 64) (v := 6) dX8_layOrder_64 (by decide) ?_
    refine r_icmp_ge (pc := 66) (tgt := 136) dX8_layOrder_66 (by decide) (fun h66 => ?_) (fun h => absurd (by rw [show o = 6 by omega]; decide) h)
    refine AW_drop 8 rfl ?_
    exact kk
  | succ m ih =>
    intro o can hl kk
    refine r_iload (pc := 62) dX8_layOrder_62 rfl ?_
    refine r_bipush (pc := 64) (v := 6) dX8_layOrder_64 (by decide) ?_
    refine r_icmp_ge (pc := 66) (tgt := 136) dX8_layOrder_66 (by decide) (fun h => absurd h (nI_ge9 (b := 6) (by omega) (by decide))) (fun h66 => ?_)
    refine r_aload_n (pc := 69) dX8_layOrder_69 rfl rfl ?_
    refine r_iload_n (pc := 70) dX8_layOrder_70 rfl rfl ?_
    refine r_iload (pc := 71) dX8_layOrder_71 rfl ?_
    refine s_X8_175 (pc := 73) (kc' := 0) (ks' := 0) rfl rfl (am_isComputed hP hR v o hv (by omega)) (mw_o hP) (Nat.le_of_ble_eq_true rfl) (Nat.le_of_ble_eq_true rfl) (Nat.le_of_ble_eq_true rfl) (Nat.le_of_ble_eq_true rfl) (by exact (Nat.le_of_ble_eq_true rfl)) rfl (List.forall_mem_cons.mpr ⟨rfl, (List.forall_mem_cons.mpr ⟨rfl, (List.forall_mem_cons.mpr ⟨rfl, fun _ h => nomatch h⟩)⟩)⟩) rfl dX8_layOrder_73 aw_kt (aw_kq ?_)
    refine r_if_eq (pc := 76) (tgt := 92) dX8_layOrder_76 (by decide) (fun h76 => ?_) (fun h76 => ?_)
    · refine r_iconst (pc := 92) (v := 0) dX8_layOrder_92 (by decide) ?_
      refine r_istore (pc := 93) dX8_layOrder_93 (Nat.le_of_ble_eq_true rfl) rfl ?_
      refine r_iload (pc := 95) dX8_layOrder_95 rfl ?_
      refine r_if_eq (pc := 97) (tgt := 127) dX8_layOrder_97 (by decide) (fun h97 => ?_) (fun h97 => ?_)
      · refine r_iconst (pc := 127) (v := 0) dX8_layOrder_127 (by decide) ?_
        refine r_istore (pc := 128) dX8_layOrder_128 (Nat.le_of_ble_eq_true rfl) rfl ?_
        refine r_iincK (pc := 130) (k9 := 1) dX8_layOrder_130 (by decide) rfl (Nat.le_of_ble_eq_true rfl) rfl ?_
        refine r_goto (pc := 133) (tgt := 62) dX8_layOrder_133 (by decide) ?_
        have hw : wtO (fun o => R (10 * (v + 1) + o)) dn o = false := by
          have h9 := bi_eq.mp h76
          show (decide (R (10 * (v + 1) + o) ≠ []) && _) = false
          rw [h9]; rfl
        have hc : can = false := bi_eq.mp h97
        rw [nI_1]
        refine AW_drop 9 rfl ?_
        refine ih (o + 1) false (by omega) ?_
        rw [show canO (fun o => R (10 * (v + 1) + o)) dn k (o + 1) m false = canO (fun o => R (10 * (v + 1) + o)) dn k o (m + 1) can by rw [canO, hw, hc]; simp]
        exact kk
      · refine r_iload (pc := 100) dX8_layOrder_100 rfl ?_
        refine r_if_eq (pc := 102) (tgt := 123) dX8_layOrder_102 (by decide) (fun _ => ?_) (fun h => absurd h (by decide))
        refine r_iconst (pc := 123) (v := 1) dX8_layOrder_123 (by decide) ?_
        refine r_goto (pc := 124) (tgt := 128) dX8_layOrder_124 (by decide) ?_
        refine r_istore (pc := 128) dX8_layOrder_128 (Nat.le_of_ble_eq_true rfl) rfl ?_
        refine r_iincK (pc := 130) (k9 := 1) dX8_layOrder_130 (by decide) rfl (Nat.le_of_ble_eq_true rfl) rfl ?_
        refine r_goto (pc := 133) (tgt := 62) dX8_layOrder_133 (by decide) ?_
        have hw : wtO (fun o => R (10 * (v + 1) + o)) dn o = false := by
          have h9 := bi_eq.mp h76
          show (decide (R (10 * (v + 1) + o) ≠ []) && _) = false
          rw [h9]; rfl
        have hc : can = true := bi_ne.mp h97
        rw [nI_1]
        refine AW_drop 9 rfl ?_
        refine ih (o + 1) true (by omega) ?_
        rw [show canO (fun o => R (10 * (v + 1) + o)) dn k (o + 1) m true = canO (fun o => R (10 * (v + 1) + o)) dn k o (m + 1) can by rw [canO, hw, hc]; simp]
        exact kk
    · refine r_iload_n (pc := 79) dX8_layOrder_79 rfl rfl ?_
      refine r_iload (pc := 80) dX8_layOrder_80 rfl ?_
      refine r_ishr (pc := 82) dX8_layOrder_82 ?_
      refine r_iconst (pc := 83) (v := 1) dX8_layOrder_83 (by decide) ?_
      refine r_iand (pc := 84) dX8_layOrder_84 ?_
      refine r_if_ne (pc := 85) (tgt := 92) dX8_layOrder_85 (by decide) (fun h85 => ?_) (fun h85 => ?_)
      · refine r_iconst (pc := 92) (v := 0) dX8_layOrder_92 (by decide) ?_
        refine r_istore (pc := 93) dX8_layOrder_93 (Nat.le_of_ble_eq_true rfl) rfl ?_
        refine r_iload (pc := 95) dX8_layOrder_95 rfl ?_
        refine r_if_eq (pc := 97) (tgt := 127) dX8_layOrder_97 (by decide) (fun h97 => ?_) (fun h97 => ?_)
        · refine r_iconst (pc := 127) (v := 0) dX8_layOrder_127 (by decide) ?_
          refine r_istore (pc := 128) dX8_layOrder_128 (Nat.le_of_ble_eq_true rfl) rfl ?_
          refine r_iincK (pc := 130) (k9 := 1) dX8_layOrder_130 (by decide) rfl (Nat.le_of_ble_eq_true rfl) rfl ?_
          refine r_goto (pc := 133) (tgt := 62) dX8_layOrder_133 (by decide) ?_
          have hw : wtO (fun o => R (10 * (v + 1) + o)) dn o = false := by
            have h9 : bitI dn o = true := bi_ne.mp (by rw [← bit01 (by omega)]; exact h85)
            show (_ && !bitI dn o) = false
            rw [h9]; exact Bool.and_false _
          have hc : can = false := bi_eq.mp h97
          rw [nI_1]
          refine AW_drop 9 rfl ?_
          refine ih (o + 1) false (by omega) ?_
          rw [show canO (fun o => R (10 * (v + 1) + o)) dn k (o + 1) m false = canO (fun o => R (10 * (v + 1) + o)) dn k o (m + 1) can by rw [canO, hw, hc]; simp]
          exact kk
        · refine r_iload (pc := 100) dX8_layOrder_100 rfl ?_
          refine r_if_eq (pc := 102) (tgt := 123) dX8_layOrder_102 (by decide) (fun _ => ?_) (fun h => absurd h (by decide))
          refine r_iconst (pc := 123) (v := 1) dX8_layOrder_123 (by decide) ?_
          refine r_goto (pc := 124) (tgt := 128) dX8_layOrder_124 (by decide) ?_
          refine r_istore (pc := 128) dX8_layOrder_128 (Nat.le_of_ble_eq_true rfl) rfl ?_
          refine r_iincK (pc := 130) (k9 := 1) dX8_layOrder_130 (by decide) rfl (Nat.le_of_ble_eq_true rfl) rfl ?_
          refine r_goto (pc := 133) (tgt := 62) dX8_layOrder_133 (by decide) ?_
          have hw : wtO (fun o => R (10 * (v + 1) + o)) dn o = false := by
            have h9 : bitI dn o = true := bi_ne.mp (by rw [← bit01 (by omega)]; exact h85)
            show (_ && !bitI dn o) = false
            rw [h9]; exact Bool.and_false _
          have hc : can = true := bi_ne.mp h97
          rw [nI_1]
          refine AW_drop 9 rfl ?_
          refine ih (o + 1) true (by omega) ?_
          rw [show canO (fun o => R (10 * (v + 1) + o)) dn k (o + 1) m true = canO (fun o => R (10 * (v + 1) + o)) dn k o (m + 1) can by rw [canO, hw, hc]; simp]
          exact kk
      · refine r_iconst (pc := 88) (v := 1) dX8_layOrder_88 (by decide) ?_
        refine r_goto (pc := 89) (tgt := 93) dX8_layOrder_89 (by decide) ?_
        refine r_istore (pc := 93) dX8_layOrder_93 (Nat.le_of_ble_eq_true rfl) rfl ?_
        refine r_iload (pc := 95) dX8_layOrder_95 rfl ?_
        refine r_if_eq (pc := 97) (tgt := 127) dX8_layOrder_97 (by decide) (fun h97 => ?_) (fun h97 => ?_)
        · refine r_iconst (pc := 127) (v := 0) dX8_layOrder_127 (by decide) ?_
          refine r_istore (pc := 128) dX8_layOrder_128 (Nat.le_of_ble_eq_true rfl) rfl ?_
          refine r_iincK (pc := 130) (k9 := 1) dX8_layOrder_130 (by decide) rfl (Nat.le_of_ble_eq_true rfl) rfl ?_
          refine r_goto (pc := 133) (tgt := 62) dX8_layOrder_133 (by decide) ?_
          have hw : wtO (fun o => R (10 * (v + 1) + o)) dn o = true := by
            have h9 : bitI dn o = false := bi_eq.mp (by rw [← bit01 (by omega)]; exact h85)
            have h8 := bi_ne.mp h76
            show (decide (R (10 * (v + 1) + o) ≠ []) && !bitI dn o) = true
            rw [h9, h8]; rfl
          have hc : can = false := bi_eq.mp h97
          rw [nI_1]
          refine AW_drop 9 rfl ?_
          refine ih (o + 1) false (by omega) ?_
          rw [show canO (fun o => R (10 * (v + 1) + o)) dn k (o + 1) m false = canO (fun o => R (10 * (v + 1) + o)) dn k o (m + 1) can by rw [canO, hw, hc]; simp]
          exact kk
        · refine r_iload (pc := 100) dX8_layOrder_100 rfl ?_
          refine r_if_eq (pc := 102) (tgt := 123) dX8_layOrder_102 (by decide) (fun h => absurd h (by decide)) (fun _ => ?_)
          refine r_aload_n (pc := 105) dX8_layOrder_105 rfl rfl ?_
          refine r_bipush (pc := 106) (v := 10) dX8_layOrder_106 (by decide) ?_
          refine r_iload_n (pc := 108) dX8_layOrder_108 rfl rfl ?_
          refine r_iconst (pc := 109) (v := 1) dX8_layOrder_109 (by decide) ?_
          refine r_iadd (pc := 110) dX8_layOrder_110 ?_
          refine r_imul (pc := 111) dX8_layOrder_111 ?_
          refine r_iload (pc := 112) dX8_layOrder_112 rfl ?_
          refine r_iadd (pc := 114) dX8_layOrder_114 ?_
          rw [nI_1, n10, nI_add]
          refine r_iload (pc := 115) dX8_layOrder_115 rfl ?_
          refine s_X8_145 (pc := 117) (kc' := 0) (ks' := 0) rfl rfl (am_hasLetter (fn := o) hP (hR (10 * (v + 1) + k) (by omega)).1) (mw_o hP) (Nat.le_of_ble_eq_true rfl) (Nat.le_of_ble_eq_true rfl) (Nat.le_of_ble_eq_true rfl) (Nat.le_of_ble_eq_true rfl) (by exact (Nat.le_of_ble_eq_true rfl)) rfl (List.forall_mem_cons.mpr ⟨rfl, (List.forall_mem_cons.mpr ⟨rfl, (List.forall_mem_cons.mpr ⟨rfl, fun _ h => nomatch h⟩)⟩)⟩) rfl dX8_layOrder_117 aw_kt (aw_kq ?_)
          refine r_if_ne (pc := 120) (tgt := 127) dX8_layOrder_120 (by decide) (fun h120 => ?_) (fun h120 => ?_)
          · refine r_iconst (pc := 127) (v := 0) dX8_layOrder_127 (by decide) ?_
            refine r_istore (pc := 128) dX8_layOrder_128 (Nat.le_of_ble_eq_true rfl) rfl ?_
            refine r_iincK (pc := 130) (k9 := 1) dX8_layOrder_130 (by decide) rfl (Nat.le_of_ble_eq_true rfl) rfl ?_
            refine r_goto (pc := 133) (tgt := 62) dX8_layOrder_133 (by decide) ?_
            have hw : wtO (fun o => R (10 * (v + 1) + o)) dn o = true := by
              have h9 : bitI dn o = false := bi_eq.mp (by rw [← bit01 (by omega)]; exact h85)
              have h8 := bi_ne.mp h76
              show (decide (R (10 * (v + 1) + o) ≠ []) && !bitI dn o) = true
              rw [h9, h8]; rfl
            have hc : can = true := bi_ne.mp h97
            have hl := bi_ne.mp h120
            rw [nI_1]
            refine AW_drop 9 rfl ?_
            refine ih (o + 1) false (by omega) ?_
            rw [show canO (fun o => R (10 * (v + 1) + o)) dn k (o + 1) m false = canO (fun o => R (10 * (v + 1) + o)) dn k o (m + 1) can by rw [canO, hw, hc]; simp [hl]]
            exact kk
          · refine r_iconst (pc := 123) (v := 1) dX8_layOrder_123 (by decide) ?_
            refine r_goto (pc := 124) (tgt := 128) dX8_layOrder_124 (by decide) ?_
            refine r_istore (pc := 128) dX8_layOrder_128 (Nat.le_of_ble_eq_true rfl) rfl ?_
            refine r_iincK (pc := 130) (k9 := 1) dX8_layOrder_130 (by decide) rfl (Nat.le_of_ble_eq_true rfl) rfl ?_
            refine r_goto (pc := 133) (tgt := 62) dX8_layOrder_133 (by decide) ?_
            have hw : wtO (fun o => R (10 * (v + 1) + o)) dn o = true := by
              have h9 : bitI dn o = false := bi_eq.mp (by rw [← bit01 (by omega)]; exact h85)
              have h8 := bi_ne.mp h76
              show (decide (R (10 * (v + 1) + o) ≠ []) && !bitI dn o) = true
              rw [h9, h8]; rfl
            have hc : can = true := bi_ne.mp h97
            have hl := bi_eq.mp h120
            rw [nI_1]
            refine AW_drop 9 rfl ?_
            refine ih (o + 1) true (by omega) ?_
            rw [show canO (fun o => R (10 * (v + 1) + o)) dn k (o + 1) m true = canO (fun o => R (10 * (v + 1) + o)) dn k o (m + 1) can by rw [canO, hw, hc]; simp [hl]]
            exact kk
theorem nI_neg1 {k : Nat} (hk : k < 2 ^ 31) : ¬ nI k = -1 := fun z => nI_pos hk (by rw [z]; decide)
set_option maxRecDepth 100000 in
set_option maxHeartbeats 4000000 in
theorem lo_fld {G : aw_G} {P T : List va_E} {sc : Nat → Int32} {ar : Nat → Nat → Int32} (hP : P.length = 12) {R : Nat → List Int32} (hR : ∀ its, its < 110 → crow ar its (R its) ∧ (R its = [] ∨ wfr (R its))) {Q : aw_R → List va_E → Prop} (v mn r : Nat) (dn : Int32) (hv : v < 10) : ∀ (m k : Nat), k + m = 6 → (match fndO (fun o => R (10 * (v + 1) + o)) dn k m with | none => AW G fX8_layOrder 0 0 (mw P sc ar T) 156 [some (.ref 12), some (.int (nI v)), some (.int dn), some (.int (nI mn)), some (.int (nI r)), some (.int (-1)), none, none, none, none] [] Q | some j => AW G fX8_layOrder 0 0 (mw P sc ar T) 156 [some (.ref 12), some (.int (nI v)), some (.int dn), some (.int (nI mn)), some (.int (nI r)), some (.int (nI j)), none, none, none, none] [] Q) → AW G fX8_layOrder 0 0 (mw P sc ar T) 20 [some (.ref 12), some (.int (nI v)), some (.int dn), some (.int (nI mn)), some (.int (nI r)), some (.int (-1)), some (.int (nI k)), none, none, none] [] Q := by
  intro m
  have fin_ : ∀ {k : Nat}, k < 6 → AW G fX8_layOrder 0 0 (mw P sc ar T) 156 [some (.ref 12), some (.int (nI v)), some (.int dn), some (.int (nI mn)), some (.int (nI r)), some (.int (nI k)), none, none, none, none] [] Q → AW G fX8_layOrder 0 0 (mw P sc ar T) 20 [some (.ref 12), some (.int (nI v)), some (.int dn), some (.int (nI mn)), some (.int (nI r)), some (.int (nI k)), some (.int (nI (k + 1))), none, none, none] [] Q := by
    intro k hk kk2
    refine r_iload (pc := 20) dX8_layOrder_20 rfl ?_
    refine r_bipush (pc := 22) (v := 6) dX8_layOrder_22 (by decide) ?_
    refine r_icmp_ge (pc := 24) (tgt := 156) dX8_layOrder_24 (by decide) (fun h24 => ?_) (fun h24 => ?_)
    · refine AW_drop 6 rfl ?_
      exact kk2
    · refine r_iload (pc := 27) dX8_layOrder_27 rfl ?_
      refine r_iconst (pc := 29) (v := -1) dX8_layOrder_29 (by decide) ?_
      refine r_icmp_ne (pc := 30) (tgt := 156) dX8_layOrder_30 (by decide) (fun h30 => ?_) (fun h => absurd h (nI_neg1 (by omega)))
      refine AW_drop 6 rfl ?_
      exact kk2
  induction m with
  | zero =>
    intro k hl kk
    refine r_iload (pc := 20) dX8_layOrder_20 rfl ?_
    refine r_bipush (pc := 22) (v := 6) dX8_layOrder_22 (by decide) ?_
    refine r_icmp_ge (pc := 24) (tgt := 156) dX8_layOrder_24 (by decide) (fun h24 => ?_) (fun h => absurd (by rw [show k = 6 by omega]; decide) h)
    refine AW_drop 6 rfl ?_
    exact kk
  | succ m ih =>
    intro k hl kk
    refine r_iload (pc := 20) dX8_layOrder_20 rfl ?_
    refine r_bipush (pc := 22) (v := 6) dX8_layOrder_22 (by decide) ?_
    refine r_icmp_ge (pc := 24) (tgt := 156) dX8_layOrder_24 (by decide) (fun h => absurd h (nI_ge9 (b := 6) (by omega) (by decide))) (fun h24 => ?_)
    refine r_iload (pc := 27) dX8_layOrder_27 rfl ?_
    refine r_iconst (pc := 29) (v := -1) dX8_layOrder_29 (by decide) ?_
    refine r_icmp_ne (pc := 30) (tgt := 156) dX8_layOrder_30 (by decide) (fun h => absurd h (by decide)) (fun _ => ?_)
    refine r_aload_n (pc := 33) dX8_layOrder_33 rfl rfl ?_
    refine r_iload_n (pc := 34) dX8_layOrder_34 rfl rfl ?_
    refine r_iload (pc := 35) dX8_layOrder_35 rfl ?_
    refine s_X8_175 (pc := 37) (kc' := 0) (ks' := 0) rfl rfl (am_isComputed hP hR v k hv (by omega)) (mw_o hP) (Nat.le_of_ble_eq_true rfl) (Nat.le_of_ble_eq_true rfl) (Nat.le_of_ble_eq_true rfl) (Nat.le_of_ble_eq_true rfl) (by exact (Nat.le_of_ble_eq_true rfl)) rfl (List.forall_mem_cons.mpr ⟨rfl, (List.forall_mem_cons.mpr ⟨rfl, (List.forall_mem_cons.mpr ⟨rfl, fun _ h => nomatch h⟩)⟩)⟩) rfl dX8_layOrder_37 aw_kt (aw_kq ?_)
    refine r_if_eq (pc := 40) (tgt := 56) dX8_layOrder_40 (by decide) (fun h40 => ?_) (fun h40 => ?_)
    · refine r_iconst (pc := 56) (v := 0) dX8_layOrder_56 (by decide) ?_
      refine r_istore (pc := 57) dX8_layOrder_57 (Nat.le_of_ble_eq_true rfl) rfl ?_
      refine r_iconst (pc := 59) (v := 0) dX8_layOrder_59 (by decide) ?_
      refine r_istore (pc := 60) dX8_layOrder_60 (Nat.le_of_ble_eq_true rfl) rfl ?_
      have hw : wtO (fun o => R (10 * (v + 1) + o)) dn k = false := by
        have h9 := bi_eq.mp h40
        show (decide (R (10 * (v + 1) + k) ≠ []) && _) = false
        rw [h9]; rfl
      refine lo_oth hP hR v mn r k dn hv (by omega) 6 0 false rfl ?_
      refine r_iload (pc := 136) dX8_layOrder_136 rfl ?_
      refine r_if_eq (pc := 138) (tgt := 146) dX8_layOrder_138 (by decide) (fun h138 => ?_) (fun h138 => ?_)
      · refine r_iload (pc := 146) dX8_layOrder_146 rfl ?_
        refine r_istore (pc := 148) dX8_layOrder_148 (Nat.le_of_ble_eq_true rfl) rfl ?_
        refine r_iincK (pc := 150) (k9 := 1) dX8_layOrder_150 (by decide) rfl (Nat.le_of_ble_eq_true rfl) rfl ?_
        refine r_goto (pc := 153) (tgt := 20) dX8_layOrder_153 (by decide) ?_
        have hcan := bi_eq.mp h138
        refine AW_drop 7 rfl ?_
        rw [nI_1]
        refine ih (k + 1) (by omega) ?_
        rw [show fndO (fun o => R (10 * (v + 1) + o)) dn k (m + 1) = fndO (fun o => R (10 * (v + 1) + o)) dn (k + 1) m by rw [fndO, if_neg (by rw [hw, hcan]; decide)]] at kk
        exact kk
      · refine r_iload (pc := 141) dX8_layOrder_141 rfl ?_
        refine r_goto (pc := 143) (tgt := 148) dX8_layOrder_143 (by decide) ?_
        refine r_istore (pc := 148) dX8_layOrder_148 (Nat.le_of_ble_eq_true rfl) rfl ?_
        refine r_iincK (pc := 150) (k9 := 1) dX8_layOrder_150 (by decide) rfl (Nat.le_of_ble_eq_true rfl) rfl ?_
        refine r_goto (pc := 153) (tgt := 20) dX8_layOrder_153 (by decide) ?_
        have hcan := bi_ne.mp h138
        refine AW_drop 7 rfl ?_
        rw [nI_1]
        refine fin_ (by omega) ?_
        rw [show fndO (fun o => R (10 * (v + 1) + o)) dn k (m + 1) = some k by rw [fndO, if_pos (by rw [hw]; exact hcan)]] at kk
        exact kk
    · refine r_iload_n (pc := 43) dX8_layOrder_43 rfl rfl ?_
      refine r_iload (pc := 44) dX8_layOrder_44 rfl ?_
      refine r_ishr (pc := 46) dX8_layOrder_46 ?_
      refine r_iconst (pc := 47) (v := 1) dX8_layOrder_47 (by decide) ?_
      refine r_iand (pc := 48) dX8_layOrder_48 ?_
      refine r_if_ne (pc := 49) (tgt := 56) dX8_layOrder_49 (by decide) (fun h49 => ?_) (fun h49 => ?_)
      · refine r_iconst (pc := 56) (v := 0) dX8_layOrder_56 (by decide) ?_
        refine r_istore (pc := 57) dX8_layOrder_57 (Nat.le_of_ble_eq_true rfl) rfl ?_
        refine r_iconst (pc := 59) (v := 0) dX8_layOrder_59 (by decide) ?_
        refine r_istore (pc := 60) dX8_layOrder_60 (Nat.le_of_ble_eq_true rfl) rfl ?_
        have hw : wtO (fun o => R (10 * (v + 1) + o)) dn k = false := by
          have h9 : bitI dn k = true := bi_ne.mp (by rw [← bit01 (by omega)]; exact h49)
          show (_ && !bitI dn k) = false
          rw [h9]; exact Bool.and_false _
        refine lo_oth hP hR v mn r k dn hv (by omega) 6 0 false rfl ?_
        refine r_iload (pc := 136) dX8_layOrder_136 rfl ?_
        refine r_if_eq (pc := 138) (tgt := 146) dX8_layOrder_138 (by decide) (fun h138 => ?_) (fun h138 => ?_)
        · refine r_iload (pc := 146) dX8_layOrder_146 rfl ?_
          refine r_istore (pc := 148) dX8_layOrder_148 (Nat.le_of_ble_eq_true rfl) rfl ?_
          refine r_iincK (pc := 150) (k9 := 1) dX8_layOrder_150 (by decide) rfl (Nat.le_of_ble_eq_true rfl) rfl ?_
          refine r_goto (pc := 153) (tgt := 20) dX8_layOrder_153 (by decide) ?_
          have hcan := bi_eq.mp h138
          refine AW_drop 7 rfl ?_
          rw [nI_1]
          refine ih (k + 1) (by omega) ?_
          rw [show fndO (fun o => R (10 * (v + 1) + o)) dn k (m + 1) = fndO (fun o => R (10 * (v + 1) + o)) dn (k + 1) m by rw [fndO, if_neg (by rw [hw, hcan]; decide)]] at kk
          exact kk
        · refine r_iload (pc := 141) dX8_layOrder_141 rfl ?_
          refine r_goto (pc := 143) (tgt := 148) dX8_layOrder_143 (by decide) ?_
          refine r_istore (pc := 148) dX8_layOrder_148 (Nat.le_of_ble_eq_true rfl) rfl ?_
          refine r_iincK (pc := 150) (k9 := 1) dX8_layOrder_150 (by decide) rfl (Nat.le_of_ble_eq_true rfl) rfl ?_
          refine r_goto (pc := 153) (tgt := 20) dX8_layOrder_153 (by decide) ?_
          have hcan := bi_ne.mp h138
          refine AW_drop 7 rfl ?_
          rw [nI_1]
          refine fin_ (by omega) ?_
          rw [show fndO (fun o => R (10 * (v + 1) + o)) dn k (m + 1) = some k by rw [fndO, if_pos (by rw [hw]; exact hcan)]] at kk
          exact kk
      · refine r_iconst (pc := 52) (v := 1) dX8_layOrder_52 (by decide) ?_
        refine r_goto (pc := 53) (tgt := 57) dX8_layOrder_53 (by decide) ?_
        refine r_istore (pc := 57) dX8_layOrder_57 (Nat.le_of_ble_eq_true rfl) rfl ?_
        refine r_iconst (pc := 59) (v := 0) dX8_layOrder_59 (by decide) ?_
        refine r_istore (pc := 60) dX8_layOrder_60 (Nat.le_of_ble_eq_true rfl) rfl ?_
        have hw : wtO (fun o => R (10 * (v + 1) + o)) dn k = true := by
          have h9 : bitI dn k = false := bi_eq.mp (by rw [← bit01 (by omega)]; exact h49)
          have h8 := bi_ne.mp h40
          show (decide (R (10 * (v + 1) + k) ≠ []) && !bitI dn k) = true
          rw [h9, h8]; rfl
        refine lo_oth hP hR v mn r k dn hv (by omega) 6 0 true rfl ?_
        refine r_iload (pc := 136) dX8_layOrder_136 rfl ?_
        refine r_if_eq (pc := 138) (tgt := 146) dX8_layOrder_138 (by decide) (fun h138 => ?_) (fun h138 => ?_)
        · refine r_iload (pc := 146) dX8_layOrder_146 rfl ?_
          refine r_istore (pc := 148) dX8_layOrder_148 (Nat.le_of_ble_eq_true rfl) rfl ?_
          refine r_iincK (pc := 150) (k9 := 1) dX8_layOrder_150 (by decide) rfl (Nat.le_of_ble_eq_true rfl) rfl ?_
          refine r_goto (pc := 153) (tgt := 20) dX8_layOrder_153 (by decide) ?_
          have hcan := bi_eq.mp h138
          refine AW_drop 7 rfl ?_
          rw [nI_1]
          refine ih (k + 1) (by omega) ?_
          rw [show fndO (fun o => R (10 * (v + 1) + o)) dn k (m + 1) = fndO (fun o => R (10 * (v + 1) + o)) dn (k + 1) m by rw [fndO, if_neg (by rw [hw, hcan]; decide)]] at kk
          exact kk
        · refine r_iload (pc := 141) dX8_layOrder_141 rfl ?_
          refine r_goto (pc := 143) (tgt := 148) dX8_layOrder_143 (by decide) ?_
          refine r_istore (pc := 148) dX8_layOrder_148 (Nat.le_of_ble_eq_true rfl) rfl ?_
          refine r_iincK (pc := 150) (k9 := 1) dX8_layOrder_150 (by decide) rfl (Nat.le_of_ble_eq_true rfl) rfl ?_
          refine r_goto (pc := 153) (tgt := 20) dX8_layOrder_153 (by decide) ?_
          have hcan := bi_ne.mp h138
          refine AW_drop 7 rfl ?_
          rw [nI_1]
          refine fin_ (by omega) ?_
          rw [show fndO (fun o => R (10 * (v + 1) + o)) dn k (m + 1) = some k by rw [fndO, if_pos (by rw [hw]; exact hcan)]] at kk
          exact kk
theorem crow_ag {ar ar' : Nat → Nat → Int32} {sc sc' : Nat → Int32} {its : Nat} {row : List Int32} (h : crow ar its row) (hag : ag [] [22] sc ar sc' ar') : crow ar' its row := by
  unfold crow
  rw [hag.2 2 (by decide), hag.2 3 (by decide)]
  exact h
set_option maxRecDepth 100000 in
set_option maxHeartbeats 4000000 in
theorem lo_rnd {G : aw_G} {P T : List va_E} {sc0 : Nat → Int32} {ar0 : Nat → Nat → Int32} (hP : P.length = 12) {R : Nat → List Int32} (hR : ∀ its, its < 110 → crow ar0 its (R its) ∧ (R its = [] ∨ wfr (R its))) (v : Nat) (hv : v < 10) (l : List Nat) : ∀ (m r : Nat) (dn : Int32) (acc : List Nat) (sc : Nat → Int32) (ar : Nat → Nat → Int32), ag [] [22] sc0 ar0 sc ar → olist (ar 22) acc → r + m = 6 → acc.length ≤ r → ordO (fun o => R (10 * (v + 1) + o)) m dn acc = l → AW G fX8_layOrder 0 0 (mw P sc ar T) 7 [some (.ref 12), some (.int (nI v)), some (.int dn), some (.int (nI acc.length)), some (.int (nI r)), none, none, none, none, none] [] (qm P T (.inl (some (.int (nI l.length)))) (fun sc2 ar2 => ag [] [22] sc0 ar0 sc2 ar2 ∧ olist (ar2 22) l)) := by
  intro m
  induction m with
  | zero =>
    intro r dn acc sc ar hag hol hr hal hord
    refine r_iload (pc := 7) dX8_layOrder_7 rfl ?_
    refine r_bipush (pc := 9) (v := 6) dX8_layOrder_9 (by decide) ?_
    refine r_icmp_ge (pc := 11) (tgt := 186) dX8_layOrder_11 (by decide) (fun h11 => ?_) (fun h => absurd (by rw [show r = 6 by omega]; decide) h)
    refine r_iload_n (pc := 186) dX8_layOrder_186 rfl rfl ?_
    refine r_iret (pc := 187) rfl rfl dX8_layOrder_187 ?_
    have h9 : acc = l := hord
    subst h9
    exact ⟨rfl, sc, ar, rfl, hag, hol⟩
  | succ m ih =>
    intro r dn acc sc ar hag hol hr hal hord
    refine r_iload (pc := 7) dX8_layOrder_7 rfl ?_
    refine r_bipush (pc := 9) (v := 6) dX8_layOrder_9 (by decide) ?_
    refine r_icmp_ge (pc := 11) (tgt := 186) dX8_layOrder_11 (by decide) (fun h => absurd h (nI_ge9 (b := 6) (by omega) (by decide))) (fun h11 => ?_)
    refine r_iconst (pc := 14) (v := -1) dX8_layOrder_14 (by decide) ?_
    refine r_istore (pc := 15) dX8_layOrder_15 (Nat.le_of_ble_eq_true rfl) rfl ?_
    refine r_iconst (pc := 17) (v := 0) dX8_layOrder_17 (by decide) ?_
    refine r_istore (pc := 18) dX8_layOrder_18 (Nat.le_of_ble_eq_true rfl) rfl ?_
    refine lo_fld hP (fun its hi => ⟨crow_ag (hR its hi).1 hag, (hR its hi).2⟩) v acc.length r dn hv 6 0 rfl ?_
    cases hf : fndO (fun o => R (10 * (v + 1) + o)) dn 0 6 with
    | none =>
      show AW _ _ _ _ _ _ _ _ _
      refine r_iload (pc := 156) dX8_layOrder_156 rfl ?_
      refine r_iconst (pc := 158) (v := -1) dX8_layOrder_158 (by decide) ?_
      refine r_icmp_eq (pc := 159) (tgt := 180) dX8_layOrder_159 (by decide) (fun _ => ?_) (fun h => absurd h (by decide))
      refine r_iincK (pc := 180) (k9 := 1) dX8_layOrder_180 (by decide) rfl (Nat.le_of_ble_eq_true rfl) rfl ?_
      refine r_goto (pc := 183) (tgt := 7) dX8_layOrder_183 (by decide) ?_
      refine AW_drop 5 rfl ?_
      rw [nI_1]
      refine ih (r + 1) dn acc sc ar hag hol (by omega) (by omega) ?_
      rw [← hord, ordO, hf]
    | some j =>
      have hj := fndO_lt 6 0 j hf
      show AW _ _ _ _ _ _ _ _ _
      refine r_iload (pc := 156) dX8_layOrder_156 rfl ?_
      refine r_iconst (pc := 158) (v := -1) dX8_layOrder_158 (by decide) ?_
      refine r_icmp_eq (pc := 159) (tgt := 180) dX8_layOrder_159 (by decide) (fun h => absurd h (nI_neg1 (by omega))) (fun h159 => ?_)
      refine r_aload_n (pc := 162) dX8_layOrder_162 rfl rfl ?_
      refine mg_53 (pc := 163) hP rfl dX8_layOrder_163 ?_
      refine r_iload_n (pc := 166) dX8_layOrder_166 rfl rfl ?_
      refine r_iload (pc := 167) dX8_layOrder_167 rfl ?_
      refine msn_22 (pc := 169) (acc.length) hP ⟨rfl, by omega⟩ dX8_layOrder_169 ?_
      refine r_iincK (pc := 170) (k9 := 1) dX8_layOrder_170 (by decide) rfl (Nat.le_of_ble_eq_true rfl) rfl ?_
      refine r_iload_n (pc := 173) dX8_layOrder_173 rfl rfl ?_
      refine r_iconst (pc := 174) (v := 1) dX8_layOrder_174 (by decide) ?_
      refine r_iload (pc := 175) dX8_layOrder_175 rfl ?_
      refine r_ishl (pc := 177) dX8_layOrder_177 ?_
      refine r_ior (pc := 178) dX8_layOrder_178 ?_
      refine r_istore_n (pc := 179) dX8_layOrder_179 rfl (Nat.le_of_ble_eq_true rfl) rfl ?_
      refine r_iincK (pc := 180) (k9 := 1) dX8_layOrder_180 (by decide) rfl (Nat.le_of_ble_eq_true rfl) rfl ?_
      refine r_goto (pc := 183) (tgt := 7) dX8_layOrder_183 (by decide) ?_
      refine AW_drop 5 rfl ?_
      rw [nI_1, nI_1]
      have h9 := ih (r + 1) (dn ||| b1 j) (acc ++ [j]) sc (va_up ar 22 (upd (ar 22) acc.length (nI j))) (ag_a hag 22 _ (by decide)) (by rw [va_up_self]; exact olist_app hol) (by omega) (by simp; omega) (by rw [← hord, ordO, hf])
      rw [show (acc ++ [j]).length = acc.length + 1 by simp] at h9
      exact h9
set_option maxRecDepth 100000 in
set_option maxHeartbeats 4000000 in
theorem am_layOrder {G : aw_G} {P T : List va_E} {sc : Nat → Int32} {ar : Nat → Nat → Int32} (hP : P.length = 12) {R : Nat → List Int32} (hR : ∀ its, its < 110 → crow ar its (R its) ∧ (R its = [] ∨ wfr (R its))) (v : Nat) (hv : v < 10) : AM G fX8_layOrder [.ref 12, .int (nI v)] (mw P sc ar T) (qm P T (.inl (some (.int (nI (ordO (fun o => R (10 * (v + 1) + o)) 6 0 []).length)))) (fun sc2 ar2 => ag [] [22] sc ar sc2 ar2 ∧ olist (ar2 22) (ordO (fun o => R (10 * (v + 1) + o)) 6 0 []))) := by
  refine AM_of (by decide) rfl rfl (Nat.le_of_ble_eq_true rfl) ?_
  show AW G fX8_layOrder 0 0 (mw P sc ar T) 0 [some (.ref 12), some (.int (nI v)), none, none, none, none, none, none, none, none] [] _
  refine r_iconst (pc := 0) (v := 0) dX8_layOrder_0 (by decide) ?_
  refine r_istore_n (pc := 1) dX8_layOrder_1 rfl (Nat.le_of_ble_eq_true rfl) rfl ?_
  refine r_iconst (pc := 2) (v := 0) dX8_layOrder_2 (by decide) ?_
  refine r_istore_n (pc := 3) dX8_layOrder_3 rfl (Nat.le_of_ble_eq_true rfl) rfl ?_
  refine r_iconst (pc := 4) (v := 0) dX8_layOrder_4 (by decide) ?_
  refine r_istore (pc := 5) dX8_layOrder_5 (Nat.le_of_ble_eq_true rfl) rfl ?_
  exact lo_rnd hP hR v hv _ 6 0 0 [] sc ar ag_rf (fun i k h => by cases h) rfl (Nat.le_refl _) rfl

end M7
