/-! ===== the reference: fields that are reached; a formula is taken ===== -/
section M6
set_option maxRecDepth 100000 in
set_option maxHeartbeats 4000000 in
theorem ir_row {G : aw_G} {P T : List va_E} {sc : Nat → Int32} {ar : Nat → Nat → Int32} (hP : P.length = 12) {Q : aw_R → List va_E → Prop} (fn n : Nat) (hrm : sc 18 = nI n) (hn40 : n ≤ 40) : ∀ (cs : List Int32) (i : Nat) (s : Int32), (∀ j x, cs[j]? = some x → ar 17 (i + j) = x) → i + cs.length = n → (∀ i : Nat, AW G fX8_isReached 0 0 (mw P sc ar T) 55 [some (.ref 12), some (.int (nI fn)), some (.int (msk s cs)), some (.int (nI i)), none, none] [] Q) → AW G fX8_isReached 0 0 (mw P sc ar T) 4 [some (.ref 12), some (.int (nI fn)), some (.int s), some (.int (nI i)), none, none] [] Q := by
  intro cs
  induction cs with
  | nil =>
    intro i s hpl hn kk
    refine r_iload_n (pc := 4) dX8_isReached_4 rfl rfl ?_
    refine r_aload_n (pc := 5) dX8_isReached_5 rfl rfl ?_
    refine mg_99 (pc := 6) hP rfl dX8_isReached_6 ?_
    refine r_icmp_ge (pc := 9) (tgt := 55) dX8_isReached_9 (by decide) (fun h9 => ?_) (fun h => absurd (by rw [hrm, show i = n by simp at hn; omega]; exact Int32.le_refl _) h)
    exact kk i
  | cons c cs ih =>
    intro i s hpl hn kk
    refine r_iload_n (pc := 4) dX8_isReached_4 rfl rfl ?_
    refine r_aload_n (pc := 5) dX8_isReached_5 rfl rfl ?_
    refine mg_99 (pc := 6) hP rfl dX8_isReached_6 ?_
    refine r_icmp_ge (pc := 9) (tgt := 55) dX8_isReached_9 (by decide) (fun h => absurd h (by rw [hrm]; exact nI_ge9 (by simp at hn; omega) (by omega))) (fun h9 => ?_)
    refine r_iload_n (pc := 12) dX8_isReached_12 rfl rfl ?_
    refine r_aload_n (pc := 13) dX8_isReached_13 rfl rfl ?_
    refine mg_44 (pc := 14) hP rfl dX8_isReached_14 ?_
    refine r_iload_n (pc := 17) dX8_isReached_17 rfl rfl ?_
    refine mln_17 (pc := 18) (i) hP ⟨rfl, by simp at hn; omega⟩ dX8_isReached_18 ?_
    rw [show ar 17 i = c from hpl 0 c rfl]
    refine r_sipush (pc := 19) (v := 1000) dX8_isReached_19 (by decide) ?_
    refine r_sipush (pc := 22) (v := 1005) dX8_isReached_22 (by decide) ?_
    refine s_X8_69 (pc := 25) (kc' := 0) (ks' := 0) rfl rfl (am_in _ _ _)  (Nat.le_of_ble_eq_true rfl) (Nat.le_of_ble_eq_true rfl) (Nat.le_of_ble_eq_true rfl) (Nat.le_of_ble_eq_true rfl) (by exact (Nat.le_of_ble_eq_true rfl)) rfl (List.forall_mem_cons.mpr ⟨rfl, (List.forall_mem_cons.mpr ⟨rfl, (List.forall_mem_cons.mpr ⟨rfl, fun _ h => nomatch h⟩)⟩)⟩) rfl dX8_isReached_25 aw_kt (aw_kq ?_)
    refine r_if_eq (pc := 28) (tgt := 46) dX8_isReached_28 (by decide) (fun h28 => ?_) (fun h28 => ?_)
    · refine r_iconst (pc := 46) (v := 0) dX8_isReached_46 (by decide) ?_
      refine r_ior (pc := 47) dX8_isReached_47 ?_
      refine r_istore_n (pc := 48) dX8_isReached_48 rfl (Nat.le_of_ble_eq_true rfl) rfl ?_
      refine r_iincK (pc := 49) (k9 := 1) dX8_isReached_49 (by decide) rfl (Nat.le_of_ble_eq_true rfl) rfl ?_
      refine r_goto (pc := 52) (tgt := 4) dX8_isReached_52 (by decide) ?_
      rw [nI_1]
      refine ih (i + 1) _ (fun j x hx => by rw [show i + 1 + j = i + (j + 1) by omega]; exact hpl (j + 1) x (by simpa using hx)) (by simp at hn ⊢; omega) ?_
      have h9 := of_decide_eq_false (bi_eq.mp h28)
      rw [show msk (s ||| 0) cs = msk s (c :: cs) by rw [msk, if_neg h9]]
      exact kk
    · refine r_iconst (pc := 31) (v := 1) dX8_isReached_31 (by decide) ?_
      refine r_aload_n (pc := 32) dX8_isReached_32 rfl rfl ?_
      refine mg_44 (pc := 33) hP rfl dX8_isReached_33 ?_
      refine r_iload_n (pc := 36) dX8_isReached_36 rfl rfl ?_
      refine mln_17 (pc := 37) (i) hP ⟨rfl, by simp at hn; omega⟩ dX8_isReached_37 ?_
      rw [show ar 17 i = c from hpl 0 c rfl]
      refine r_sipush (pc := 38) (v := 1000) dX8_isReached_38 (by decide) ?_
      refine r_isub (pc := 41) dX8_isReached_41 ?_
      refine r_ishl (pc := 42) dX8_isReached_42 ?_
      refine r_goto (pc := 43) (tgt := 47) dX8_isReached_43 (by decide) ?_
      refine r_ior (pc := 47) dX8_isReached_47 ?_
      refine r_istore_n (pc := 48) dX8_isReached_48 rfl (Nat.le_of_ble_eq_true rfl) rfl ?_
      refine r_iincK (pc := 49) (k9 := 1) dX8_isReached_49 (by decide) rfl (Nat.le_of_ble_eq_true rfl) rfl ?_
      refine r_goto (pc := 52) (tgt := 4) dX8_isReached_52 (by decide) ?_
      rw [nI_1]
      refine ih (i + 1) _ (fun j x hx => by rw [show i + 1 + j = i + (j + 1) by omega]; exact hpl (j + 1) x (by simpa using hx)) (by simp at hn ⊢; omega) ?_
      have h9 := of_decide_eq_true (bi_ne.mp h28)
      rw [show msk (s ||| 1 <<< (c - 1000 &&& 31)) cs = msk s (c :: cs) by rw [msk, if_pos h9]]
      exact kk
set_option maxRecDepth 100000 in
set_option maxHeartbeats 4000000 in
theorem ir_let {G : aw_G} {P T : List va_E} {sc : Nat → Int32} {ar : Nat → Nat → Int32} (hP : P.length = 12) {Q : aw_R → List va_E → Prop} {R : Nat → List Int32} (hR : ∀ its, its < 110 → crow ar its (R its) ∧ (R its = [] ∨ wfr (R its))) (fn r k : Nat) (hfn : fn < 6) (hk : k < 6) : ∀ (m l : Nat) (s : Int32), l + m = 6 → (bitI s k = true ∧ k ≠ fn) → AW G fX8_isReached 0 0 (mw P sc ar T) 127 [some (.ref 12), some (.int (nI fn)), some (.int (lmU (R k) l m s)), some (.int (nI r)), some (.int (nI k)), none] [] Q → AW G fX8_isReached 0 0 (mw P sc ar T) 76 [some (.ref 12), some (.int (nI fn)), some (.int s), some (.int (nI r)), some (.int (nI k)), some (.int (nI l))] [] Q := by
  intro m
  induction m with
  | zero =>
    intro l s hl hb kk
    refine r_iload (pc := 76) dX8_isReached_76 rfl ?_
    refine r_bipush (pc := 78) (v := 6) dX8_isReached_78 (by decide) ?_
    refine r_icmp_ge (pc := 80) (tgt := 127) dX8_isReached_80 (by decide) (fun h80 => ?_) (fun h => absurd (by rw [show l = 6 by omega]; decide) h)
    refine AW_drop 5 rfl ?_
    exact kk
  | succ m ih =>
    intro l s hl hb kk
    refine r_iload (pc := 76) dX8_isReached_76 rfl ?_
    refine r_bipush (pc := 78) (v := 6) dX8_isReached_78 (by decide) ?_
    refine r_icmp_ge (pc := 80) (tgt := 127) dX8_isReached_80 (by decide) (fun h => absurd h (nI_ge9 (b := 6) (by omega) (by decide))) (fun h80 => ?_)
    refine r_iload_n (pc := 83) dX8_isReached_83 rfl rfl ?_
    refine r_iload_n (pc := 84) dX8_isReached_84 rfl rfl ?_
    refine r_iload (pc := 85) dX8_isReached_85 rfl ?_
    refine r_ishr (pc := 87) dX8_isReached_87 ?_
    refine r_iconst (pc := 88) (v := 1) dX8_isReached_88 (by decide) ?_
    refine r_iand (pc := 89) dX8_isReached_89 ?_
    refine r_iconst (pc := 90) (v := 1) dX8_isReached_90 (by decide) ?_
    refine r_icmp_ne (pc := 91) (tgt := 118) dX8_isReached_91 (by decide) (fun h91 => ?_) (fun h91 => ?_)
    · refine r_iconst (pc := 118) (v := 0) dX8_isReached_118 (by decide) ?_
      refine r_ior (pc := 119) dX8_isReached_119 ?_
      refine r_istore_n (pc := 120) dX8_isReached_120 rfl (Nat.le_of_ble_eq_true rfl) rfl ?_
      refine r_iincK (pc := 121) (k9 := 1) dX8_isReached_121 (by decide) rfl (Nat.le_of_ble_eq_true rfl) rfl ?_
      refine r_goto (pc := 124) (tgt := 76) dX8_isReached_124 (by decide) ?_
      exact absurd (of_decide_eq_true hb.1) h91
    · refine r_iload (pc := 94) dX8_isReached_94 rfl ?_
      refine r_iload_n (pc := 96) dX8_isReached_96 rfl rfl ?_
      refine r_icmp_eq (pc := 97) (tgt := 118) dX8_isReached_97 (by decide) (fun h97 => ?_) (fun h97 => ?_)
      · refine r_iconst (pc := 118) (v := 0) dX8_isReached_118 (by decide) ?_
        refine r_ior (pc := 119) dX8_isReached_119 ?_
        refine r_istore_n (pc := 120) dX8_isReached_120 rfl (Nat.le_of_ble_eq_true rfl) rfl ?_
        refine r_iincK (pc := 121) (k9 := 1) dX8_isReached_121 (by decide) rfl (Nat.le_of_ble_eq_true rfl) rfl ?_
        refine r_goto (pc := 124) (tgt := 76) dX8_isReached_124 (by decide) ?_
        exact absurd ((nI_eq (by omega) (by omega)).mp h97) hb.2
      · refine r_aload_n (pc := 100) dX8_isReached_100 rfl rfl ?_
        refine r_iload (pc := 101) dX8_isReached_101 rfl ?_
        refine r_iload (pc := 103) dX8_isReached_103 rfl ?_
        refine s_X8_145 (pc := 105) (kc' := 0) (ks' := 0) rfl rfl (am_hasLetter hP (hR k (by omega)).1) (mw_o hP) (Nat.le_of_ble_eq_true rfl) (Nat.le_of_ble_eq_true rfl) (Nat.le_of_ble_eq_true rfl) (Nat.le_of_ble_eq_true rfl) (by exact (Nat.le_of_ble_eq_true rfl)) rfl (List.forall_mem_cons.mpr ⟨rfl, (List.forall_mem_cons.mpr ⟨rfl, (List.forall_mem_cons.mpr ⟨rfl, fun _ h => nomatch h⟩)⟩)⟩) rfl dX8_isReached_105 aw_kt (aw_kq ?_)
        refine r_if_eq (pc := 108) (tgt := 118) dX8_isReached_108 (by decide) (fun h108 => ?_) (fun h108 => ?_)
        · refine r_iconst (pc := 118) (v := 0) dX8_isReached_118 (by decide) ?_
          refine r_ior (pc := 119) dX8_isReached_119 ?_
          refine r_istore_n (pc := 120) dX8_isReached_120 rfl (Nat.le_of_ble_eq_true rfl) rfl ?_
          refine r_iincK (pc := 121) (k9 := 1) dX8_isReached_121 (by decide) rfl (Nat.le_of_ble_eq_true rfl) rfl ?_
          refine r_goto (pc := 124) (tgt := 76) dX8_isReached_124 (by decide) ?_
          rw [nI_1]
          refine ih (l + 1) _ (by omega) ?_ ?_
          · rw [bitI_or (by omega), hb.1]; exact ⟨rfl, hb.2⟩
          · rw [show lmU (R k) (l + 1) m (s ||| 0) = lmU (R k) l (m + 1) s by rw [lmU, if_neg (by rw [bi_eq.mp h108]; decide)]]
            exact kk
        · refine r_iconst (pc := 111) (v := 1) dX8_isReached_111 (by decide) ?_
          refine r_iload (pc := 112) dX8_isReached_112 rfl ?_
          refine r_ishl (pc := 114) dX8_isReached_114 ?_
          refine r_goto (pc := 115) (tgt := 119) dX8_isReached_115 (by decide) ?_
          refine r_ior (pc := 119) dX8_isReached_119 ?_
          refine r_istore_n (pc := 120) dX8_isReached_120 rfl (Nat.le_of_ble_eq_true rfl) rfl ?_
          refine r_iincK (pc := 121) (k9 := 1) dX8_isReached_121 (by decide) rfl (Nat.le_of_ble_eq_true rfl) rfl ?_
          refine r_goto (pc := 124) (tgt := 76) dX8_isReached_124 (by decide) ?_
          rw [nI_1]
          refine ih (l + 1) _ (by omega) ?_ ?_
          · rw [bitI_or (by omega), hb.1]; exact ⟨rfl, hb.2⟩
          · rw [show lmU (R k) (l + 1) m (s ||| 1 <<< (nI l &&& 31)) = lmU (R k) l (m + 1) s by rw [lmU, if_pos (bi_ne.mp h108)]; rfl]
            exact kk
set_option maxRecDepth 100000 in
set_option maxHeartbeats 4000000 in
theorem ir_nol {G : aw_G} {P T : List va_E} {sc : Nat → Int32} {ar : Nat → Nat → Int32} (hP : P.length = 12) {Q : aw_R → List va_E → Prop} {R : Nat → List Int32} (hR : ∀ its, its < 110 → crow ar its (R its) ∧ (R its = [] ∨ wfr (R its))) (fn r k : Nat) (hfn : fn < 6) (hk : k < 6) (s : Int32) (hb : ¬ (bitI s k = true ∧ k ≠ fn)) : ∀ (m l : Nat), l + m = 6 → AW G fX8_isReached 0 0 (mw P sc ar T) 127 [some (.ref 12), some (.int (nI fn)), some (.int s), some (.int (nI r)), some (.int (nI k)), none] [] Q → AW G fX8_isReached 0 0 (mw P sc ar T) 76 [some (.ref 12), some (.int (nI fn)), some (.int s), some (.int (nI r)), some (.int (nI k)), some (.int (nI l))] [] Q := by
  intro m
  induction m with
  | zero =>
    intro l hl kk
    refine r_iload (pc := 76) dX8_isReached_76 rfl ?_
    refine r_bipush (pc := 78) (v := 6) dX8_isReached_78 (by decide) ?_
    refine r_icmp_ge (pc := 80) (tgt := 127) dX8_isReached_80 (by decide) (fun h80 => ?_) (fun h => absurd (by rw [show l = 6 by omega]; decide) h)
    refine AW_drop 5 rfl ?_
    exact kk
  | succ m ih =>
    intro l hl kk
    refine r_iload (pc := 76) dX8_isReached_76 rfl ?_
    refine r_bipush (pc := 78) (v := 6) dX8_isReached_78 (by decide) ?_
    refine r_icmp_ge (pc := 80) (tgt := 127) dX8_isReached_80 (by decide) (fun h => absurd h (nI_ge9 (b := 6) (by omega) (by decide))) (fun h80 => ?_)
    refine r_iload_n (pc := 83) dX8_isReached_83 rfl rfl ?_
    refine r_iload_n (pc := 84) dX8_isReached_84 rfl rfl ?_
    refine r_iload (pc := 85) dX8_isReached_85 rfl ?_
    refine r_ishr (pc := 87) dX8_isReached_87 ?_
    refine r_iconst (pc := 88) (v := 1) dX8_isReached_88 (by decide) ?_
    refine r_iand (pc := 89) dX8_isReached_89 ?_
    refine r_iconst (pc := 90) (v := 1) dX8_isReached_90 (by decide) ?_
    refine r_icmp_ne (pc := 91) (tgt := 118) dX8_isReached_91 (by decide) (fun h91 => ?_) (fun h91 => ?_)
    · refine r_iconst (pc := 118) (v := 0) dX8_isReached_118 (by decide) ?_
      refine r_ior (pc := 119) dX8_isReached_119 ?_
      refine r_istore_n (pc := 120) dX8_isReached_120 rfl (Nat.le_of_ble_eq_true rfl) rfl ?_
      refine r_iincK (pc := 121) (k9 := 1) dX8_isReached_121 (by decide) rfl (Nat.le_of_ble_eq_true rfl) rfl ?_
      refine r_goto (pc := 124) (tgt := 76) dX8_isReached_124 (by decide) ?_
      rw [show s ||| 0 = s from Int32.or_zero, nI_1]
      exact ih (l + 1) (by omega) kk
    · refine r_iload (pc := 94) dX8_isReached_94 rfl ?_
      refine r_iload_n (pc := 96) dX8_isReached_96 rfl rfl ?_
      refine r_icmp_eq (pc := 97) (tgt := 118) dX8_isReached_97 (by decide) (fun h97 => ?_) (fun h97 => ?_)
      · refine r_iconst (pc := 118) (v := 0) dX8_isReached_118 (by decide) ?_
        refine r_ior (pc := 119) dX8_isReached_119 ?_
        refine r_istore_n (pc := 120) dX8_isReached_120 rfl (Nat.le_of_ble_eq_true rfl) rfl ?_
        refine r_iincK (pc := 121) (k9 := 1) dX8_isReached_121 (by decide) rfl (Nat.le_of_ble_eq_true rfl) rfl ?_
        refine r_goto (pc := 124) (tgt := 76) dX8_isReached_124 (by decide) ?_
        rw [show s ||| 0 = s from Int32.or_zero, nI_1]
        exact ih (l + 1) (by omega) kk
      · refine r_aload_n (pc := 100) dX8_isReached_100 rfl rfl ?_
        refine r_iload (pc := 101) dX8_isReached_101 rfl ?_
        refine r_iload (pc := 103) dX8_isReached_103 rfl ?_
        refine s_X8_145 (pc := 105) (kc' := 0) (ks' := 0) rfl rfl (am_hasLetter hP (hR k (by omega)).1) (mw_o hP) (Nat.le_of_ble_eq_true rfl) (Nat.le_of_ble_eq_true rfl) (Nat.le_of_ble_eq_true rfl) (Nat.le_of_ble_eq_true rfl) (by exact (Nat.le_of_ble_eq_true rfl)) rfl (List.forall_mem_cons.mpr ⟨rfl, (List.forall_mem_cons.mpr ⟨rfl, (List.forall_mem_cons.mpr ⟨rfl, fun _ h => nomatch h⟩)⟩)⟩) rfl dX8_isReached_105 aw_kt (aw_kq ?_)
        refine r_if_eq (pc := 108) (tgt := 118) dX8_isReached_108 (by decide) (fun h108 => ?_) (fun h108 => ?_)
        · refine r_iconst (pc := 118) (v := 0) dX8_isReached_118 (by decide) ?_
          refine r_ior (pc := 119) dX8_isReached_119 ?_
          refine r_istore_n (pc := 120) dX8_isReached_120 rfl (Nat.le_of_ble_eq_true rfl) rfl ?_
          refine r_iincK (pc := 121) (k9 := 1) dX8_isReached_121 (by decide) rfl (Nat.le_of_ble_eq_true rfl) rfl ?_
          refine r_goto (pc := 124) (tgt := 76) dX8_isReached_124 (by decide) ?_
          exact absurd ⟨decide_eq_true h91, fun z => h97 (by rw [z])⟩ hb
        · refine r_iconst (pc := 111) (v := 1) dX8_isReached_111 (by decide) ?_
          refine r_iload (pc := 112) dX8_isReached_112 rfl ?_
          refine r_ishl (pc := 114) dX8_isReached_114 ?_
          refine r_goto (pc := 115) (tgt := 119) dX8_isReached_115 (by decide) ?_
          refine r_ior (pc := 119) dX8_isReached_119 ?_
          refine r_istore_n (pc := 120) dX8_isReached_120 rfl (Nat.le_of_ble_eq_true rfl) rfl ?_
          refine r_iincK (pc := 121) (k9 := 1) dX8_isReached_121 (by decide) rfl (Nat.le_of_ble_eq_true rfl) rfl ?_
          refine r_goto (pc := 124) (tgt := 76) dX8_isReached_124 (by decide) ?_
          exact absurd ⟨decide_eq_true h91, fun z => h97 (by rw [z])⟩ hb
set_option maxRecDepth 100000 in
set_option maxHeartbeats 4000000 in
theorem ir_its {G : aw_G} {P T : List va_E} {sc : Nat → Int32} {ar : Nat → Nat → Int32} (hP : P.length = 12) {Q : aw_R → List va_E → Prop} {R : Nat → List Int32} (hR : ∀ its, its < 110 → crow ar its (R its) ∧ (R its = [] ∨ wfr (R its))) (fn r : Nat) (hfn : fn < 6) : ∀ (m k : Nat) (s : Int32), k + m = 6 → AW G fX8_isReached 0 0 (mw P sc ar T) 133 [some (.ref 12), some (.int (nI fn)), some (.int (rcI R fn k m s)), some (.int (nI r)), none, none] [] Q → AW G fX8_isReached 0 0 (mw P sc ar T) 66 [some (.ref 12), some (.int (nI fn)), some (.int s), some (.int (nI r)), some (.int (nI k)), none] [] Q := by
  intro m
  induction m with
  | zero =>
    intro k s hl kk
    refine r_iload (pc := 66) dX8_isReached_66 rfl ?_
    refine r_bipush (pc := 68) (v := 6) dX8_isReached_68 (by decide) ?_
    refine r_icmp_ge (pc := 70) (tgt := 133) dX8_isReached_70 (by decide) (fun h70 => ?_) (fun h => absurd (by rw [show k = 6 by omega]; decide) h)
    refine AW_drop 4 rfl ?_
    exact kk
  | succ m ih =>
    intro k s hl kk
    refine r_iload (pc := 66) dX8_isReached_66 rfl ?_
    refine r_bipush (pc := 68) (v := 6) dX8_isReached_68 (by decide) ?_
    refine r_icmp_ge (pc := 70) (tgt := 133) dX8_isReached_70 (by decide) (fun h => absurd h (nI_ge9 (b := 6) (by omega) (by decide))) (fun h70 => ?_)
    refine r_iconst (pc := 73) (v := 0) dX8_isReached_73 (by decide) ?_
    refine r_istore (pc := 74) dX8_isReached_74 (Nat.le_of_ble_eq_true rfl) rfl ?_
    by_cases hb : bitI s k = true ∧ k ≠ fn
    · refine ir_let hP hR fn r k hfn (by omega) 6 0 s rfl hb ?_
      refine r_iincK (pc := 127) (k9 := 1) dX8_isReached_127 (by decide) rfl (Nat.le_of_ble_eq_true rfl) rfl ?_
      refine r_goto (pc := 130) (tgt := 66) dX8_isReached_130 (by decide) ?_
      rw [nI_1]
      refine ih (k + 1) _ (by omega) ?_
      rw [show rcI R fn (k + 1) m (lmU (R k) 0 6 s) = rcI R fn k (m + 1) s by rw [rcI, if_pos hb]]
      exact kk
    · refine ir_nol hP hR fn r k hfn (by omega) s hb 6 0 rfl ?_
      refine r_iincK (pc := 127) (k9 := 1) dX8_isReached_127 (by decide) rfl (Nat.le_of_ble_eq_true rfl) rfl ?_
      refine r_goto (pc := 130) (tgt := 66) dX8_isReached_130 (by decide) ?_
      rw [nI_1]
      refine ih (k + 1) _ (by omega) ?_
      rw [show rcI R fn (k + 1) m (s) = rcI R fn k (m + 1) s by rw [rcI, if_neg hb]]
      exact kk
set_option maxRecDepth 100000 in
set_option maxHeartbeats 4000000 in
theorem ir_rnd {G : aw_G} {P T : List va_E} {sc : Nat → Int32} {ar : Nat → Nat → Int32} (hP : P.length = 12) {Q : aw_R → List va_E → Prop} {R : Nat → List Int32} (hR : ∀ its, its < 110 → crow ar its (R its) ∧ (R its = [] ∨ wfr (R its))) (fn : Nat) (hfn : fn < 6) : ∀ (m r : Nat) (s : Int32), r + m = 6 → AW G fX8_isReached 0 0 (mw P sc ar T) 139 [some (.ref 12), some (.int (nI fn)), some (.int (rcR R fn m s)), none, none, none] [] Q → AW G fX8_isReached 0 0 (mw P sc ar T) 57 [some (.ref 12), some (.int (nI fn)), some (.int s), some (.int (nI r)), none, none] [] Q := by
  intro m
  induction m with
  | zero =>
    intro r s hl kk
    refine r_iload_n (pc := 57) dX8_isReached_57 rfl rfl ?_
    refine r_bipush (pc := 58) (v := 6) dX8_isReached_58 (by decide) ?_
    refine r_icmp_ge (pc := 60) (tgt := 139) dX8_isReached_60 (by decide) (fun h60 => ?_) (fun h => absurd (by rw [show r = 6 by omega]; decide) h)
    refine AW_drop 3 rfl ?_
    exact kk
  | succ m ih =>
    intro r s hl kk
    refine r_iload_n (pc := 57) dX8_isReached_57 rfl rfl ?_
    refine r_bipush (pc := 58) (v := 6) dX8_isReached_58 (by decide) ?_
    refine r_icmp_ge (pc := 60) (tgt := 139) dX8_isReached_60 (by decide) (fun h => absurd h (nI_ge9 (b := 6) (by omega) (by decide))) (fun h60 => ?_)
    refine r_iconst (pc := 63) (v := 0) dX8_isReached_63 (by decide) ?_
    refine r_istore (pc := 64) dX8_isReached_64 (Nat.le_of_ble_eq_true rfl) rfl ?_
    refine ir_its hP hR fn r hfn 6 0 s rfl ?_
    refine r_iincK (pc := 133) (k9 := 1) dX8_isReached_133 (by decide) rfl (Nat.le_of_ble_eq_true rfl) rfl ?_
    refine r_goto (pc := 136) (tgt := 57) dX8_isReached_136 (by decide) ?_
    rw [nI_1]
    refine ih (r + 1) _ (by omega) ?_
    exact kk
set_option maxRecDepth 100000 in
set_option maxHeartbeats 4000000 in
theorem am_isReached {G : aw_G} {P T : List va_E} {sc : Nat → Int32} {ar : Nat → Nat → Int32} (hP : P.length = 12) {R : Nat → List Int32} (hR : ∀ its, its < 110 → crow ar its (R its) ∧ (R its = [] ∨ wfr (R its))) {row : List Int32} (hrm : sc 18 = nI row.length) (hn40 : row.length ≤ 40) (hpl : arow (ar 17) row) (fn : Nat) (hfn : fn < 6) : AM G fX8_isReached [.ref 12, .int (nI fn)] (mw P sc ar T) (qx (.inl (some (.int (bi (bitI (rcR R fn 6 (msk 0 row)) fn))))) (mw P sc ar T)) := by
  refine AM_of (by decide) rfl rfl (Nat.le_of_ble_eq_true rfl) ?_
  show AW G fX8_isReached 0 0 (mw P sc ar T) 0 [some (.ref 12), some (.int (nI fn)), none, none, none, none] [] _
  refine r_iconst (pc := 0) (v := 0) dX8_isReached_0 (by decide) ?_
  refine r_istore_n (pc := 1) dX8_isReached_1 rfl (Nat.le_of_ble_eq_true rfl) rfl ?_
  refine r_iconst (pc := 2) (v := 0) dX8_isReached_2 (by decide) ?_
  refine r_istore_n (pc := 3) dX8_isReached_3 rfl (Nat.le_of_ble_eq_true rfl) rfl ?_
  refine ir_row hP fn row.length hrm hn40 row 0 0 (fun j x hx => by rw [Nat.zero_add]; exact hpl j x hx) (Nat.zero_add _) (fun i => ?_)
  refine r_iconst (pc := 55) (v := 0) dX8_isReached_55 (by decide) ?_
  refine r_istore_n (pc := 56) dX8_isReached_56 rfl (Nat.le_of_ble_eq_true rfl) rfl ?_
  refine ir_rnd hP hR fn hfn 6 0 _ rfl ?_
  refine r_iload_n (pc := 139) dX8_isReached_139 rfl rfl ?_
  refine r_iload_n (pc := 140) dX8_isReached_140 rfl rfl ?_
  refine r_ishr (pc := 141) dX8_isReached_141 ?_
  refine r_iconst (pc := 142) (v := 1) dX8_isReached_142 (by decide) ?_
  refine r_iand (pc := 143) dX8_isReached_143 ?_
  refine r_iconst (pc := 144) (v := 1) dX8_isReached_144 (by decide) ?_
  refine r_icmp_ne (pc := 145) (tgt := 152) dX8_isReached_145 (by decide) (fun h145 => ?_) (fun h145 => ?_)
  · refine r_iconst (pc := 152) (v := 0) dX8_isReached_152 (by decide) ?_
    refine r_iret (pc := 153) rfl rfl dX8_isReached_153 ?_
    exact ⟨by rw [show bitI (rcR R fn 6 (msk 0 row)) fn = false from decide_eq_false h145]; rfl, rfl⟩
  · refine r_iconst (pc := 148) (v := 1) dX8_isReached_148 (by decide) ?_
    refine r_goto (pc := 149) (tgt := 153) dX8_isReached_149 (by decide) ?_
    refine r_iret (pc := 153) rfl rfl dX8_isReached_153 ?_
    exact ⟨by rw [show bitI (rcR R fn 6 (msk 0 row)) fn = true from decide_eq_true h145]; rfl, rfl⟩

end M6
