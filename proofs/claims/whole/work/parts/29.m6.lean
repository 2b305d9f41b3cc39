/-! ===== the reference: fields that are reached; a formula is taken ===== -/
section M6
set_option maxRecDepth 100000 in
set_option maxHeartbeats 4000000 in
theorem ir_row {G : aw_G} {P T : List va_E} {sc : Nat → Int32} {ar : Nat → Nat → Int32} (hP : P.length = 12) {Q : aw_R → List va_E → Prop} (fn n : Nat) (hrm : sc 18 = nI n) (hn40 : n ≤ 40) : ∀ (cs : List Int32) (i : Nat) (s : Int32), (∀ j x, cs[j]? = some x → ar 17 (i + j) = x) → i + cs.length = n → (∀ i : Nat, AW G fX8_isReached 0 0 (mw P sc ar T) 55 [some (.ref 12), some (.int (nI fn)), some (.int (msk s cs)), some (.int (nI i)), none, none] [] Q) → AW G fX8_isReached 0 0 (mw P sc ar T) 4 [some (.ref 12), some (.int (nI fn)), some (.int s), some (.int (nI i)), none, none] [] Q := by
  intro cs
  induction cs with
  | nil =>
    intro i s hpl hn kk
    refine r_iload_n (pc := 4) dX8_isReached_4 rfl rfl ?_
    refine r_aload_n (pc := 5) dX8_isReached_5 rfl rfl ?_
    refine mg_99 (pc := 6) hP rfl dX8_isReached_6 ?_
    refine r_icmp_ge (pc := 9) (tgt := 55) dX8_isReached_9 (by decide) (fun h9 => ?_) (fun h => absurd (by rw [hrm, show i = n by simp at hn; omega]; exact Int32.le_refl _) h)
    exact kk i
  | cons c cs ih =>
    intro i s hpl hn kk
    refine r_iload_n (pc := 4) dX8_isReached_4 rfl rfl ?_
    refine r_aload_n (pc := 5) dX8_isReached_5 rfl rfl ?_
    refine mg_99 (pc := 6) hP rfl dX8_isReached_6 ?_
    refine r_icmp_ge (pc := 9) (tgt := 55) dX8_isReached_9 (by decide) (fun h => absurd h (by rw [hrm]; exact nI_ge9 (by simp at hn; omega) (by omega))) (fun h9 => ?_)
    refine r_iload_n (pc := 12) dX8_isReached_12 rfl rfl ?_
    refine r_aload_n (pc := 13) dX8_isReached_13 rfl rfl ?_
    refine mg_44 (pc := 14) hP rfl dX8_isReached_14 ?_
    refine r_iload_n (pc := 17) dX8_isReached_17 rfl rfl ?_
    refine mln_17 (pc := 18) (i) hP ⟨rfl, by simp at hn; omega⟩ dX8_isReached_18 ?_
    rw [show ar 17 i = c from hpl 0 c rfl]
    refine r_sipush (pc := 19) (v := 1000) dX8_isReached_19 (by decide) ?_
    refine r_sipush (pc := 22) (v := 1005) dX8_isReached_22 (by decide) ?_
    refine s_X8_69 (pc := 25) (kc' := 0) (ks' := 0) rfl rfl (am_in _ _ _)  (Nat.le_of_ble_eq_true rfl) (Nat.le_of_ble_eq_true rfl) (Nat.le_of_ble_eq_true rfl) (Nat.le_of_ble_eq_true rfl) (by exact (Nat.le_of_ble_eq_true rfl)) rfl (List.forall_mem_cons.mpr ⟨rfl, (List.forall_mem_cons.mpr ⟨rfl, (List.forall_mem_cons.mpr ⟨rfl, fun _ h => nomatch h⟩)⟩)⟩) rfl dX8_isReached_25 aw_kt (aw_kq ?_)
    refine r_if_eq (pc := 28) (tgt := 46) dX8_isReached_28 (by decide) (fun h28 => ?_) (fun h28 => ?_)
    · refine r_iconst (pc := 46) (v := 0) dX8_isReached_46 (by decide) ?_
      refine r_ior (pc := 47) dX8_isReached_47 ?_
      refine r_istore_n (pc := 48) dX8_isReached_48 rfl (Nat.le_of_ble_eq_true rfl) rfl ?_
      refine r_iincK (pc := 49) (k9 := 1) dX8_isReached_49 (by decide) rfl (Nat.le_of_ble_eq_true rfl) rfl ?_
      refine r_goto (pc := 52) (tgt := 4) dX8_isReached_52 (by decide) ?_
      rw [nI_1]
      refine ih (i + 1) _ (fun j x hx => by rw [show i + 1 + j = i + (j + 1) by omega]; exact hpl (j + 1) x (by simpa using hx)) (by simp at hn ⊢; omega) ?_
      have h9 := of_decide_eq_false (bi_eq.mp h28)
      rw [show msk (s ||| 0) cs = msk s (c :: cs) by rw [msk, if_neg h9]]
      exact kk
    · refine r_iconst (pc := 31) (v := 1) dX8_isReached_31 (by decide) ?_
      refine r_aload_n (pc := 32) dX8_isReached_32 rfl rfl ?_
      refine mg_44 (pc := 33) hP rfl dX8_isReached_33 ?_
      refine r_iload_n (pc := 36) dX8_isReached_36 rfl rfl ?_
      refine mln_17 (pc := 37) (i) hP ⟨rfl, by simp at hn; omega⟩ dX8_isReached_37 ?_
      rw [show ar 17 i = c from hpl 0 c rfl]
      refine r_sipush (pc := 38) (v := 1000) dX8_isReached_38 (by decide) ?_
      refine r_isub (pc := 41) dX8_isReached_41 ?_
      refine r_ishl (pc := 42) dX8_isReached_42 ?_
      refine r_goto (pc := 43) (tgt := 47) dX8_isReached_43 (by decide) ?_
      refine r_ior (pc := 47) dX8_isReached_47 ?_
      refine r_istore_n (pc := 48) dX8_isReached_48 rfl (Nat.le_of_ble_eq_true rfl) rfl ?_
      refine r_iincK (pc := 49) (k9 := 1) dX8_isReached_49 (by decide) rfl (Nat.le_of_ble_eq_true rfl) rfl ?_
      refine r_goto (pc := 52) (tgt := 4) dX8_isReached_52 (by decide) ?_
      rw [nI_1]
      refine ih (i + 1) _ (fun j x hx => by rw [show i + 1 + j = i + (j + 1) by omega]; exact hpl (j + 1) x (by simpa using hx)) (by simp at hn ⊢; omega) ?_
      have h9 := of_decide_eq_true (bi_ne.mp h28)
      rw [show msk (s ||| 1 <<< (c - 1000 &&& 31)) cs = msk s (c :: cs) by rw [msk, if_pos h9]]
      exact kk
set_option maxRecDepth 100000 in
set_option maxHeartbeats 4000000 in
theorem ir_let {G : aw_G} {P T : List va_E} {sc : Nat → Int32} {ar : Nat → Nat → Int32} (hP : P.length = 12) {Q : aw_R → List va_E → Prop} {R : Nat → List Int32} (hR : ∀ its, its < 110 → crow ar its (R its) ∧ (R its = [] ∨ wfr (R its))) (fn r k : Nat) (hfn : fn < 6) (hk : k < 6) : ∀ (m l : Nat) (s : Int32), l + m = 6 → (bitI s k = true ∧ k ≠ fn) → AW G fX8_isReached 0 0 (mw P sc ar T) 127 [some (.ref 12), some (.int (nI fn)), some (.int (lmU (R k) l m s)), some (.int (nI r)), some (.int (nI k)), none] [] Q → AW G fX8_isReached 0 0 (mw P sc ar T) 76 [some (.ref 12), some (.int (nI fn)), some (.int s), some (.int (nI r)), some (.int (nI k)), some (.int (nI l))] [] Q := by
  intro m
  induction m with
  | zero =>
    intro l s hl hb kk
    refine r_iload (pc := 76) dX8_isReached_76 rfl ?_
    refine r_bipush (pc := 78) (v := 6) dX8_isReached_78 (by decide) ?_
    refine r_icmp_ge (pc := 80) (tgt := 127) dX8_isReached_80 (by decide) (fun h80 => ?_) (fun h => absurd (by rw [show l = 6 by omega]; decide) h)
    refine AW_drop 5 rfl ?_
    exact kk
  | succ m ih =>
    intro l s hl hb kk
    refine r_iload (pc := 76) dX8_isReached_76 rfl ?_
    refine r_bipush (pc := 78) (v := 6) dX8_isReached_78 (by decide) ?_
    refine r_icmp_ge (pc := 80) (tgt := 127) dX8_isReached_80 (by decide) (fun h => absurd h (nI_ge9 (b := 6) (by omega) (by decide))) (fun h80 => ?_)
    refine r_iload_n (pc := 83) dX8_isReached_83 rfl rfl ?_
    refine r_iload_n (pc := 84) dX8_isReached_84 rfl rfl ?_
    refine r_iload (pc := 85) dX8_isReached_85 rfl ?_
    refine r_ishr (pc := 87) dX8_isReached_87 ?_
    refine r_iconst (pc := 88) (v := 1) dX8_isReached_88 (by decide) ?_
    refine r_iand (pc := 89) dX8_isReached_89 ?_
    refine r_iconst (pc := 90) (v := 1) dX8_isReached_90 (by decide) ?_
    refine r_icmp_ne (pc := 91) (tgt := 118) dX8_isReached_91 (by decide) (fun h91 => ?_) (fun h91 => ?_)
    · refine r_iconst (pc := 118) (v := 0) dX8_isReached_118 (by decide) ?_
      refine r_ior (pc := 119) dX8_isReached_119 ?_
      refine r_istore_n (pc := 120) dX8_isReached_120 rfl (Nat.le_of_ble_eq_true rfl) rfl ?_
      refine r_iincK (pc := 121) (k9 := 1) dX8_isReached_121 (by decide) rfl (Nat.le_of_ble_eq_true rfl) rfl ?_
      refine r_goto (pc := 124) (tgt := 76) dX8_isReached_124 (by decide) ?_
      exact absurd (of_decide_eq_true hb.1) h91
    · refine r_iload (pc := 94) dX8_isReached_94 rfl ?_
      refine r_iload_n (pc := 96) dX8_isReached_96 rfl rfl ?_
      refine r_icmp_eq (pc := 97) (tgt := 118) dX8_isReached_97 (by decide) (fun h97 => ?_) (fun h97 => ?_)
      · refine r_iconst (pc := 118) (v := 0) dX8_isReached_118 (by decide) ?_
        refine r_ior (pc := 119) dX8_isReached_119 ?_
        refine r_istore_n (pc := 120) dX8_isReached_120 rfl (Nat.le_of_ble_eq_true rfl) rfl ?_
        refine r_iincK (pc := 121) (k9 := 1) dX8_isReached_121 (by decide) rfl (Nat.le_of_ble_eq_true rfl) rfl ?_
        refine r_goto (pc := 124) (tgt := 76) dX8_isReached_124 (by decide) ?_
        exact absurd ((nI_eq (by omega) (by omega)).mp h97) hb.2
      · refine r_aload_n (pc := 100) dX8_isReached_100 rfl rfl ?_
        refine r_iload (pc := 101) dX8_isReached_101 rfl ?_
        refine r_iload (pc := 103) dX8_isReached_103 rfl ?_
        refine s_X8_145 (pc := 105) (kc' := 0) (ks' := 0) rfl rfl (am_hasLetter hP (hR k (by omega)).1) (mw_o hP) (Nat.le_of_ble_eq_true rfl) (Nat.le_of_ble_eq_true rfl) (Nat.le_of_ble_eq_true rfl) (Nat.le_of_ble_eq_true rfl) (by exact (Nat.le_of_ble_eq_true rfl)) rfl (List.forall_mem_cons.mpr ⟨rfl, (List.forall_mem_cons.mpr ⟨rfl, (List.forall_mem_cons.mpr ⟨rfl, fun _ h => nomatch h⟩)⟩)⟩) rfl dX8_isReached_105 aw_kt (aw_kq ?_)
        refine r_if_eq (pc := 108) (tgt := 118) dX8_isReached_108 (by decide) (fun h108 => ?_) (fun h108 => ?_)
        · refine r_iconst (pc := 118) (v := 0) dX8_isReached_118 (by decide) ?_
          refine r_ior (pc := 119) dX8_isReached_119 ?_
          refine r_istore_n (pc := 120) dX8_isReached_120 rfl (Nat.le_of_ble_eq_true rfl) rfl ?_
          refine r_iincK (pc := 121) (k9 := 1) dX8_isReached_121 (by decide) rfl (Nat.le_of_ble_eq_true rfl) rfl ?_
          refine r_goto (pc := 124) (tgt := 76) dX8_isReached_124 (by decide) ?_
          rw [nI_1]
          refine ih (l + 1) _ (by omega) ?_ ?_
          · rw [bitI_or (by omega), hb.1]; exact ⟨rfl, hb.2⟩
          · rw [show lmU (R k) (l + 1) m (s ||| 0) = lmU (R k) l (m + 1) s by rw [lmU, if_neg (by rw [bi_eq.mp h108]; decide)]]
            exact kk
        · refine r_iconst (pc := 111) (v := 1) dX8_isReached_111 (by decide) ?_
          refine r_iload (pc := 112) dX8_isReached_112 rfl ?_
          refine r_ishl (pc := 114) dX8_isReached_114 ?_
          refine r_goto (pc := 115) (tgt := 119) dX8_isReached_115 (by decide) ?_
          refine r_ior (pc := 119) dX8_isReached_119 ?_
          refine r_istore_n (pc := 120) dX8_isReached_120 rfl (Nat.le_of_ble_eq_true rfl) rfl ?_
          refine r_iincK (pc := 121) (k9 := 1) dX8_isReached_121 (by decide) rfl (Nat.le_of_ble_eq_true rfl) rfl ?_
          refine r_goto (pc := 124) (tgt := 76) dX8_isReached_124 (by decide) ?_
          rw [nI_1]
          refine ih (l + 1) _ (by omega) ?_ ?_
          · rw [bitI_or (by omega), hb.1]; exact ⟨rfl, hb.2⟩
          · rw [show lmU (R k) (l + 1) m (s ||| 1 <<< (nI l &&& 31)) = lmU (R k) l (m + 1) s by rw [lmU, if_pos (bi_ne.mp h108)]; rfl]
            exact kk
set_option maxRecDepth 100000 in
set_option maxHeartbeats 4000000 in
theorem ir_nol {G : aw_G} {P T : List va_E} {sc : Nat → Int32} {ar : Nat → Nat → Int32} (hP : P.length = 12) {Q : aw_R → List va_E → Prop} {R : Nat → List Int32} (hR : ∀ its, its < 110 → crow ar its (R its) ∧ (R its = [] ∨ wfr (R its))) (fn r k : Nat) (hfn : fn < 6) (hk : k < 6) (s : Int32) (hb : ¬ (bitI s k = true ∧ k ≠ fn)) : ∀ (m l : Nat), l + m = 6 → AW G fX8_isReached 0 0 (mw P sc ar T) 127 [some (.ref 12), some (.int (nI fn)), some (.int s), some (.int (nI r)), some (.int (nI k)), none] [] Q → AW G fX8_isReached 0 0 (mw P sc ar T) 76 [some (.ref 12), some (.int (nI fn)), some (.int s), some (.int (nI r)), some (.int (nI k)), some (.int (nI l))] [] Q := by
  intro m
  induction m with
  | zero =>
    intro l hl kk
    refine r_iload (pc := 76) dX8_isReached_76 rfl ?_
    refine r_bipush (pc := 78) (v := 6) dX8_isReached_78 (by decide) ?_
    refine r_icmp_ge (pc := 80) (tgt := 127) dX8_isReached_80 (by decide) (fun h80 => ?_) (fun h => absurd (by rw [show l = 6 by omega]; decide) h)
    refine AW_drop 5 rfl ?_
    exact kk
  | succ m ih =>
    intro l hl kk
    refine r_iload (pc := 76) dX8_isReached_76 rfl ?_
    refine r_bipush (pc := 78) (v := 6) dX8_isReached_78 (by decide) ?_
    refine r_icmp_ge (pc := 80) (tgt := 127) dX8_isReached_80 (by decide) (fun h => absurd h (nI_ge9 (b := 6) (by omega) (by decide))) (fun h80 => ?_)
    refine r_iload_n (pc := 83) dX8_isReached_83 rfl rfl ?_
    refine r_iload_n (pc := 84) dX8_isReached_84 rfl rfl ?_
    refine r_iload (pc := 85) dX8_isReached_85 rfl ?_
    refine r_ishr (pc := 87) dX8_isReached_87 ?_
    refine r_iconst (pc := 88) (v := 1) dX8_isReached_88 (by decide) ?_
    refine r_iand (pc := 89) dX8_isReached_89 ?_
    refine r_iconst (pc := 90) (v := 1) dX8_isReached_90 (by decide) ?_
    refine r_icmp_ne (pc := 91) (tgt := 118) dX8_isReached_91 (by decide) (fun h91 => ?_) (fun h91 => ?_)
    · refine r_iconst (pc := 118) (v := 0) dX8_isReached_118 (by decide) ?_
      refine r_ior (pc := 119) dX8_isReached_119 ?_
      refine r_istore_n (pc := 120) dX8_isReached_120 rfl (Nat.le_of_ble_eq_true rfl) rfl ?_
      refine r_iincK (pc := 121) (k9 := 1) dX8_isReached_121 (by decide) rfl (Nat.le_of_ble_eq_true rfl) rfl ?_
      refine r_goto (pc := 124) (tgt := 76) dX8_isReached_124 (by decide) ?_
      rw [show s ||| 0 = s from Int32.or_zero, nI_1]
      exact ih (l + 1) (by omega) kk
    · refine r_iload (pc := 94) dX8_isReached_94 rfl ?_
      refine r_iload_n (pc := 96) dX8_isReached_96 rfl rfl ?_
      refine r_icmp_eq (pc := 97) (tgt := 118) dX8_isReached_97 (by decide) (fun h97 => ?_) (fun h97 => ?_)
      · refine r_iconst (pc := 118) (v := 0) dX8_isReached_118 (by decide) ?_
        refine r_ior (pc := 119) dX8_isReached_119 ?_
        refine r_istore_n (pc := 120) dX8_isReached_120 rfl (Nat.le_of_ble_eq_true rfl) rfl ?_
        refine r_iincK (pc := 121) (k9 := 1) dX8_isReached_121 (by decide) rfl (Nat.le_of_ble_eq_true rfl) rfl ?_
        refine r_goto (pc := 124) (tgt := 76) dX8_isReached_124 (by decide) ?_
        rw [show s ||| 0 = s from Int32.or_zero, nI_1]
        exact ih (l + 1) (by omega) kk
      · refine r_aload_n (pc := 100) dX8_isReached_100 rfl rfl ?_
        refine r_iload (pc := 101) dX8_isReached_101 rfl ?_
        refine r_iload (pc := 103) dX8_isReached_103 rfl ?_
        refine s_X8_145 (pc := 105) (kc' := 0) (ks' := 0) rfl rfl (am_hasLetter hP (hR k (by omega)).1) (mw_o hP) (Nat.le_of_ble_eq_true rfl) (Nat.le_of_ble_eq_true rfl) (Nat.le_of_ble_eq_true rfl) (Nat.le_of_ble_eq_true rfl) (by exact (Nat.le_of_ble_eq_true rfl)) rfl (List.forall_mem_cons.mpr ⟨rfl, (List.forall_mem_cons.mpr ⟨rfl, (List.forall_mem_cons.mpr ⟨rfl, fun _ h => nomatch h⟩)⟩)⟩) rfl dX8_isReached_105 aw_kt (aw_kq ?_)
        refine r_if_eq (pc := 108) (tgt := 118) dX8_isReached_108 (by decide) (fun h108 => ?_) (fun h108 => ?_)
        · refine r_iconst (pc := 118) (v := 0) dX8_isReached_118 (by decide) ?_
          refine r_ior (pc := 119) dX8_isReached_119 ?_
          refine r_istore_n (pc := 120) dX8_isReached_120 rfl (Nat.le_of_ble_eq_true rfl) rfl ?_
          refine r_iincK (pc := 121) (k9 := 1) dX8_isReached_121 (by decide) rfl (Nat.le_of_ble_eq_true rfl) rfl ?_
          refine r_goto (pc := 124) (tgt := 76) dX8_isReached_124 (by decide) ?_
          exact absurd ⟨decide_eq_true h91, fun z => h97 (by rw [z])⟩ hb
        · refine r_iconst (pc := 111) (v := 1) dX8_isReached_111 (by decide) ?_
          refine r_iload (pc := 112) dX8_isReached_112 rfl ?_
          refine r_ishl (pc := 114) dX8_isReached_114 ?_
          refine r_goto (pc := 115) (tgt := 119) dX8_isReached_115 (by decide) ?_
          refine r_ior (pc := 119) dX8_isReached_119 ?_
          refine r_istore_n (pc := 120) dX8_isReached_120 rfl (Nat.le_of_ble_eq_true rfl) rfl ?_
          refine r_iincK (pc := 121) (k9 := 1) dX8_isReached_121 (by decide) rfl (Nat.le_of_ble_eq_true rfl) rfl ?_
          refine r_goto (pc := 124) (tgt := 76) dX8_isReached_124 (by decide) ?_
          exact absurd ⟨decide_eq_true h91, fun z => h97 (by rw [z])⟩ hb
set_option maxRecDepth 100000 in
set_option maxHeartbeats 4000000 in
theorem ir_its {G : aw_G} {P T : List va_E} {sc : Nat → Int32} {ar : Nat → Nat → Int32} (hP : P.length = 12) {Q : aw_R → List va_E → Prop} {R : Nat → List Int32} (hR : ∀ its, its < 110 → crow ar its (R its) ∧ (R its = [] ∨ wfr (R its))) (fn r : Nat) (hfn : fn < 6) : ∀ (m k : Nat) (s : Int32), k + m = 6 → AW G fX8_isReached 0 0 (mw P sc ar T) 133 [some (.ref 12), some (.int (nI fn)), some (.int (rcI R fn k m s)), some (.int (nI r)), none, none] [] Q → AW G fX8_isReached 0 0 (mw P sc ar T) 66 [some (.ref 12), some (.int (nI fn)), some (.int s), some (.int (nI r)), some (.int (nI k)), none] [] Q := by
  intro m
  induction m with
  | zero =>
    intro k s hl kk
    refine r_iload (pc := 66) dX8_isReached_66 rfl ?_
    refine r_bipush (pc := 68) (v := 6) dX8_isReached_68 (by decide) ?_
    refine r_icmp_ge (pc := 70) (tgt := 133) dX8_isReached_70 (by decide) (fun h70 => ?_) (fun h => absurd (by rw [show k = 6 by omega]; decide) h)
    refine AW_drop 4 rfl ?_
    exact kk
  | succ m ih =>
    intro k s hl kk
    refine r_iload (pc := 66) dX8_isReached_66 rfl ?_
    refine r_bipush (pc := 68) (v := 6) dX8_isReached_68 (by decide) ?_
    refine r_icmp_ge (pc := 70) (tgt := 133) dX8_isReached_70 (by decide) (fun h => absurd h (nI_ge9 (b := 6) (by omega) (by decide))) (fun h70 => ?_)
    refine r_iconst (pc := 73) (v := 0) dX8_isReached_73 (by decide) ?_
    refine r_istore (pc := 74) dX8_isReached_74 (Nat.le_of_ble_eq_true rfl) rfl ?_
    by_cases hb : bitI s k = true ∧ k ≠ fn
    · refine ir_let hP hR fn r k hfn (by omega) 6 0 s rfl hb ?_
      refine r_iincK (pc := 127) (k9 := 1) dX8_isReached_127 (by decide) rfl (Nat.le_of_ble_eq_true rfl) rfl ?_
      refine r_goto (pc := 130) (tgt := 66) dX8_isReached_130 (by decide) ?_
      rw [nI_1]
      refine ih (k + 1) _ (by omega) ?_
      rw [show rcI R fn (k + 1) m (lmU (R k) 0 6 s) = rcI R fn k (m + 1) s by rw [rcI, if_pos hb]]
      exact kk
    · refine ir_nol hP hR fn r k hfn (by omega) s hb 6 0 rfl ?_
      refine r_iincK (pc := 127) (k9 := 1) dX8_isReached_127 (by decide) rfl (Nat.le_of_ble_eq_true rfl) rfl ?_
      refine r_goto (pc := 130) (tgt := 66) dX8_isReached_130 (by decide) ?_
      rw [nI_1]
      refine ih (k + 1) _ (by omega) ?_
      rw [show rcI R fn (k + 1) m (s) = rcI R fn k (m + 1) s by rw [rcI, if_neg hb]]
      exact kk
set_option maxRecDepth 100000 in
set_option maxHeartbeats 4000000 in
theorem ir_rnd {G : aw_G} {P T : List va_E} {sc : Nat → Int32} {ar : Nat → Nat → Int32} (hP : P.length = 12) {Q : aw_R → List va_E → Prop} {R : Nat → List Int32} (hR : ∀ its, its < 110 → crow ar its (R its) ∧ (R its = [] ∨ wfr (R its))) (fn : Nat) (hfn : fn < 6) : ∀ (m r : Nat) (s : Int32), r + m = 6 → AW G fX8_isReached 0 0 (mw P sc ar T) 139 [some (.ref 12), some (.int (nI fn)), some (.int (rcR R fn m s)), none, none, none] [] Q → AW G fX8_isReached 0 0 (mw P sc ar T) 57 [some (.ref 12), some (.int (nI fn)), some (.int s), some (.int (nI r)), none, none] [] Q := by
  intro m
  induction m with
  | zero =>
    intro r s hl kk
    refine r_iload_n (pc := 57) dX8_isReached_57 rfl rfl ?_
    refine r_bipush (pc := 58) (v := 6) dX8_isReached_58 (by decide) ?_
    refine r_icmp_ge (pc := 60) (tgt := 139) dX8_isReached_60 (by decide) (fun h60 => ?_) (fun h => absurd (by rw [show r = 6 by omega]; decide) h)
    refine AW_drop 3 rfl ?_
    exact kk
  | succ m ih =>
    intro r s hl kk
    refine r_iload_n (pc := 57) dX8_isReached_57 rfl rfl ?_
    refine r_bipush (pc := 58) (v := 6) dX8_isReached_58 (by decide) ?_
    refine r_icmp_ge (pc := 60) (tgt := 139) dX8_isReached_60 (by decide) (fun h => absurd h (nI_ge9 (b := 6) (by omega) (by decide))) (fun h60 => ?_)
    refine r_iconst (pc := 63) (v := 0) dX8_isReached_63 (by decide) ?_
    refine r_istore (pc := 64) dX8_isReached_64 (Nat.le_of_ble_eq_true rfl) rfl ?_
    refine ir_its hP hR fn r hfn 6 0 s rfl ?_
    refine r_iincK (pc := 133) (k9 := 1) dX8_isReached_133 (by decide) rfl (Nat.le_of_ble_eq_true rfl) rfl ?_
    refine r_goto (pc := 136) (tgt := 57) dX8_isReached_136 (by decide) ?_
    rw [nI_1]
    refine ih (r + 1) _ (by omega) ?_
    exact kk
set_option maxRecDepth 100000 in
set_option maxHeartbeats 4000000 in
theorem am_isReached {G : aw_G} {P T : List va_E} {sc : Nat → Int32} {ar : Nat → Nat → Int32} (hP : P.length = 12) {R : Nat → List Int32} (hR : ∀ its, its < 110 → crow ar its (R its) ∧ (R its = [] ∨ wfr (R its))) {row : List Int32} (hrm : sc 18 = nI row.length) (hn40 : row.length ≤ 40) (hpl : arow (ar 17) row) (fn : Nat) (hfn : fn < 6) : AM G fX8_isReached [.ref 12, .int (nI fn)] (mw P sc ar T) (qx (.inl (some (.int (bi (bitI (rcR R fn 6 (msk 0 row)) fn))))) (mw P sc ar T)) := by
  refine AM_of (by decide) rfl rfl (Nat.le_of_ble_eq_true rfl) ?_
  show AW G fX8_isReached 0 0 (mw P sc ar T) 0 [some (.ref 12), some (.int (nI fn)), none, none, none, none] [] _
  refine r_iconst (pc := 0) (v := 0) dX8_isReached_0 (by decide) ?_
  refine r_istore_n (pc := 1) dX8_isReached_1 rfl (Nat.le_of_ble_eq_true rfl) rfl ?_
  refine r_iconst (pc := 2) (v := 0) dX8_isReached_2 (by decide) ?_
  refine r_istore_n (pc := 3) dX8_isReached_3 rfl (Nat.le_of_ble_eq_true rfl) rfl ?_
  refine ir_row hP fn row.length hrm hn40 row 0 0 (fun j x hx => by rw [Nat.zero_add]; exact hpl j x hx) (Nat.zero_add _) (fun i => ?_)
  refine r_iconst (pc := 55) (v := 0) dX8_isReached_55 (by decide) ?_
  refine r_istore_n (pc := 56) dX8_isReached_56 rfl (Nat.le_of_ble_eq_true rfl) rfl ?_
  refine ir_rnd hP hR fn hfn 6 0 _ rfl ?_
  refine r_iload_n (pc := 139) dX8_isReached_139 rfl rfl ?_
  refine r_iload_n (pc := 140) dX8_isReached_140 rfl rfl ?_
  refine r_ishr (pc := 141) dX8_isReached_141 ?_
  refine r_iconst (pc := 142) (v := 1) dX8_isReached_142 (by decide) ?_
  refine r_iand (pc := 143) dX8_isReached_143 ?_
  refine r_iconst (pc := 144) (v := 1) dX8_isReached_144 (by decide) ?_
  refine r_icmp_ne (pc := 145) (tgt := 152) dX8_isReached_145 (by decide) (fun h145 => ?_) (fun h145 => ?_)
  · refine r_iconst (pc := 152) (v := 0) dX8_isReached_152 (by decide) ?_
    refine r_iret (pc := 153) rfl rfl dX8_isReached_153 ?_
    exact ⟨by rw [show bitI (rcR R fn 6 (msk 0 row)) fn = false from decide_eq_false h145]; rfl, rfl⟩
  · refine r_iconst (pc := 148) (v := 1) dX8_isReached_148 (by decide) ?_
    refine r_goto (pc := 149) (tgt := 153) dX8_isReached_149 (by decide) ?_
    refine r_iret (pc := 153) rfl rfl dX8_isReached_153 ?_
    exact ⟨by rw [show bitI (rcR R fn 6 (msk 0 row)) fn = true from decide_eq_true h145]; rfl, rfl⟩

set_option maxRecDepth 100000 in
set_option maxHeartbeats 4000000 in
theorem sf_put {G : aw_G} {P T : List va_E} {sc : Nat → Int32} {ar1 : Nat → Nat → Int32} (hP : P.length = 12) {Q : aw_R → List va_E → Prop} (fn : Nat) (hfn : fn < 10) (row : List Int32) (hrm : sc 18 = nI row.length) (hn40 : row.length ≤ 40) (hrow : arow (ar1 17) row) : ∀ (m i : Nat) (ar : Nat → Nat → Int32), i + m = row.length → (∀ j x, j < i → row[j]? = some x → ar 2 (40 * fn + j) = x) → (∀ j, (j < 40 * fn ∨ 40 * fn + row.length ≤ j) → ar 2 j = ar1 2 j) → (∀ k, k ≠ 2 → ar k = ar1 k) → (∀ ar' : Nat → Nat → Int32, (∀ j x, row[j]? = some x → ar' 2 (40 * fn + j) = x) → (∀ j, (j < 40 * fn ∨ 40 * fn + row.length ≤ j) → ar' 2 j = ar1 2 j) → (∀ k, k ≠ 2 → ar' k = ar1 k) → AW G fX8_setFormula 0 0 (mw P sc ar' T) 135 [some (.ref 12), some (.int (nI fn)), none, none] [] Q) → AW G fX8_setFormula 0 0 (mw P sc ar T) 104 [some (.ref 12), some (.int (nI fn)), some (.int (nI i)), none] [] Q := by
  intro m
  induction m with
  | zero =>
    intro i ar hi hd hk ho kk
    refine r_iload_n (pc := 104) dX8_setFormula_104 rfl rfl ?_
    refine r_aload_n (pc := 105) dX8_setFormula_105 rfl rfl ?_
    refine mg_99 (pc := 106) hP rfl dX8_setFormula_106 ?_
    refine r_icmp_ge (pc := 109) (tgt := 135) dX8_setFormula_109 (by decide) (fun h109 => ?_) (fun h => absurd (by rw [hrm, show i = row.length by omega]; exact Int32.le_refl _) h)
    refine AW_drop 2 rfl ?_
    exact kk ar (fun j x hx => hd j x (by have := (List.getElem?_eq_some_iff.mp hx).1; omega) hx) hk ho
  | succ m ih =>
    intro i ar hi hd hk ho kk
    refine r_iload_n (pc := 104) dX8_setFormula_104 rfl rfl ?_
    refine r_aload_n (pc := 105) dX8_setFormula_105 rfl rfl ?_
    refine mg_99 (pc := 106) hP rfl dX8_setFormula_106 ?_
    refine r_icmp_ge (pc := 109) (tgt := 135) dX8_setFormula_109 (by decide) (fun h => absurd h (by rw [hrm]; exact nI_ge9 (by omega) (by omega))) (fun h109 => ?_)
    refine r_aload_n (pc := 112) dX8_setFormula_112 rfl rfl ?_
    refine mg_13 (pc := 113) hP rfl dX8_setFormula_113 ?_
    refine r_bipush (pc := 116) (v := 40) dX8_setFormula_116 (by decide) ?_
    refine r_iload_n (pc := 118) dX8_setFormula_118 rfl rfl ?_
    refine r_imul (pc := 119) dX8_setFormula_119 ?_
    refine r_iload_n (pc := 120) dX8_setFormula_120 rfl rfl ?_
    refine r_iadd (pc := 121) dX8_setFormula_121 ?_
    refine r_aload_n (pc := 122) dX8_setFormula_122 rfl rfl ?_
    refine mg_44 (pc := 123) hP rfl dX8_setFormula_123 ?_
    refine r_iload_n (pc := 126) dX8_setFormula_126 rfl rfl ?_
    refine mln_17 (pc := 127) (i) hP ⟨rfl, by omega⟩ dX8_setFormula_127 ?_
    refine msn_2 (pc := 128) (40 * fn + i) hP ⟨by rw [n40, nI_add], by omega⟩ dX8_setFormula_128 ?_
    refine r_iincK (pc := 129) (k9 := 1) dX8_setFormula_129 (by decide) rfl (Nat.le_of_ble_eq_true rfl) rfl ?_
    refine r_goto (pc := 132) (tgt := 104) dX8_setFormula_132 (by decide) ?_
    rw [nI_1]
    refine ih (i + 1) _ (by omega) ?_ ?_ ?_ kk
    · intro j x hj hx
      rw [va_up_self]
      by_cases hji : j = i
      · subst hji
        rw [upd_s, ho 17 (by decide)]
        exact hrow j x hx
      · rw [upd_n _ _ (by omega)]
        exact hd j x (by omega) hx
    · intro j hj
      rw [va_up_self, upd_n _ _ (by omega)]
      exact hk j hj
    · intro k hk2
      rw [va_up_ne _ _ hk2]
      exact ho k hk2
set_option maxRecDepth 100000 in
set_option maxHeartbeats 4000000 in
theorem sf_cnt {G : aw_G} {P T : List va_E} {sc : Nat → Int32} {ar : Nat → Nat → Int32} (hP : P.length = 12) {Q : aw_R → List va_E → Prop} {R : Nat → List Int32} (fn v : Nat) (hL : ∀ k, k < 10 → ar 3 k = nI (R k).length ∧ (R k).length ≤ 40) (kk : Q (.inl (some (.int (nI v)))) (mw P sc ar T)) : ∀ (m k a : Nat), k + m = 10 → a + cntU (fun g => decide (R g ≠ [])) k m = v → AW G fX8_setFormula 0 0 (mw P sc ar T) 139 [some (.ref 12), some (.int (nI fn)), some (.int (nI a)), some (.int (nI k))] [] Q := by
  intro m
  induction m with
  | zero =>
    intro k a hk hv
    refine r_iload_n (pc := 139) dX8_setFormula_139 rfl rfl ?_
    refine r_bipush (pc := 140) (v := 10) dX8_setFormula_140 (by decide) ?_
    refine r_icmp_ge (pc := 142) (tgt := 168) dX8_setFormula_142 (by decide) (fun h142 => ?_) (fun h => absurd (by rw [show k = 10 by omega]; decide) h)
    refine r_iload_n (pc := 168) dX8_setFormula_168 rfl rfl ?_
    refine r_iret (pc := 169) rfl rfl dX8_setFormula_169 ?_
    rw [show a = v from hv] at *
    exact kk
  | succ m ih =>
    intro k a hk hv
    refine r_iload_n (pc := 139) dX8_setFormula_139 rfl rfl ?_
    refine r_bipush (pc := 140) (v := 10) dX8_setFormula_140 (by decide) ?_
    refine r_icmp_ge (pc := 142) (tgt := 168) dX8_setFormula_142 (by decide) (fun h => absurd h (nI_ge9 (b := 10) (by omega) (by decide))) (fun h142 => ?_)
    refine r_iload_n (pc := 145) dX8_setFormula_145 rfl rfl ?_
    refine r_aload_n (pc := 146) dX8_setFormula_146 rfl rfl ?_
    refine mg_16 (pc := 147) hP rfl dX8_setFormula_147 ?_
    refine r_iload_n (pc := 150) dX8_setFormula_150 rfl rfl ?_
    refine mln_3 (pc := 151) (k) hP ⟨rfl, by omega⟩ dX8_setFormula_151 ?_
    refine r_if_le (pc := 152) (tgt := 159) dX8_setFormula_152 (by decide) (fun h152 => ?_) (fun h152 => ?_)
    · refine r_iconst (pc := 159) (v := 0) dX8_setFormula_159 (by decide) ?_
      refine r_iadd (pc := 160) dX8_setFormula_160 ?_
      refine r_istore_n (pc := 161) dX8_setFormula_161 rfl (Nat.le_of_ble_eq_true rfl) rfl ?_
      refine r_iincK (pc := 162) (k9 := 1) dX8_setFormula_162 (by decide) rfl (Nat.le_of_ble_eq_true rfl) rfl ?_
      refine r_goto (pc := 165) (tgt := 139) dX8_setFormula_165 (by decide) ?_
      have h9 : ¬ R k ≠ [] := fun z => nI_nle (n := (R k).length) (List.length_pos_iff.mpr z) (by have := (hL k (by omega)).2; omega) (by rw [← (hL k (by omega)).1]; exact h152)
      rw [nI_1, show nI a + 0 = nI a from nI_add a 0]
      exact ih (k + 1) a (by omega) (by rw [← hv, cntU, if_neg (by simpa using h9)]; omega)
    · refine r_iconst (pc := 155) (v := 1) dX8_setFormula_155 (by decide) ?_
      refine r_goto (pc := 156) (tgt := 160) dX8_setFormula_156 (by decide) ?_
      refine r_iadd (pc := 160) dX8_setFormula_160 ?_
      refine r_istore_n (pc := 161) dX8_setFormula_161 rfl (Nat.le_of_ble_eq_true rfl) rfl ?_
      refine r_iincK (pc := 162) (k9 := 1) dX8_setFormula_162 (by decide) rfl (Nat.le_of_ble_eq_true rfl) rfl ?_
      refine r_goto (pc := 165) (tgt := 139) dX8_setFormula_165 (by decide) ?_
      have h9 : R k ≠ [] := fun z => h152 (by rw [(hL k (by omega)).1, z]; decide)
      rw [nI_1, nI_1]
      exact ih (k + 1) (a + 1) (by omega) (by rw [← hv, cntU, if_pos (by simpa using h9)]; omega)
theorem nI_rng {k n : Nat} (h : k ≤ n) (hn : n < 2 ^ 31) : 0 ≤ nI k ∧ nI k ≤ nI n := ⟨nI_pos' (by omega), nI_le h hn⟩
/-- of a draft: a formula may be taken -/
def takes (ty : Nat → Int32) (R : Nat → List Int32) (f : Nat) (row : List Int32) : Prop := tyV ty row = dueF ty f ∧ ¬ (f < 6 ∧ bitI (rcR R f 6 (msk 0 row)) f = true)
def sfC (tn vn an : Nat) (R : Nat → List Int32) (vv : Nat → Nat) (sc : Nat → Int32) (ar : Nat → Nat → Int32) (fn : Nat) (v : Int32) (sc2 : Nat → Int32) (ar2 : Nat → Nat → Int32) : Prop :=
  (pe (tlist (ar 0) 0 tn) 0 true (-1) [] [false] ≠ -1 ∧ sc2 12 = 2 ∧ ag [12, 14, 16, 18, 20] [13, 15, 17, 19, 21] sc ar sc2 ar2) ∨
  (pe (tlist (ar 0) 0 tn) 0 true (-1) [] [false] = -1 ∧ ¬ takes (ar 4) R fn (rowOf (tlist (ar 0) 0 tn)) ∧ sc2 12 = 3 ∧ ag [12, 14, 16, 18, 20] [13, 15, 17, 19, 21] sc ar sc2 ar2) ∨
  (pe (tlist (ar 0) 0 tn) 0 true (-1) [] [false] = -1 ∧ takes (ar 4) R fn (rowOf (tlist (ar 0) 0 tn)) ∧ sc2 12 = 0 ∧ ag [12, 14, 16, 18, 20] [2, 3, 13, 15, 17, 19, 21] sc ar sc2 ar2 ∧ MI tn vn an (va_up R fn (rowOf (tlist (ar 0) 0 tn))) vv sc2 ar2 ∧ v = nI (cntU (fun g => decide (va_up R fn (rowOf (tlist (ar 0) 0 tn)) g ≠ [])) 0 10))
set_option maxRecDepth 100000 in
set_option maxHeartbeats 4000000 in
theorem am_setFormula {G : aw_G} {P T : List va_E} {sc : Nat → Int32} {ar : Nat → Nat → Int32} (hP : P.length = 12) {tn vn an : Nat} {R : Nat → List Int32} {vv : Nat → Nat} (hM : MI tn vn an R vv sc ar) (hpp : hparse) (fn : Nat) (hfn : fn < 10) : AM G fX8_setFormula [.ref 12, .int (nI fn)] (mw P sc ar T) (qe P T (sfC tn vn an R vv sc ar fn)) := by
  refine AM_of (by decide) rfl rfl (Nat.le_of_ble_eq_true rfl) ?_
  show AW G fX8_setFormula 0 0 (mw P sc ar T) 0 [some (.ref 12), some (.int (nI fn)), none, none] [] _
  refine r_aload_n (pc := 0) dX8_setFormula_0 rfl rfl ?_
  refine r_iload_n (pc := 1) dX8_setFormula_1 rfl rfl ?_
  refine s_X8_149 (pc := 2) (kc' := 0) (ks' := 0) rfl rfl (am_isFormula _)  (Nat.le_of_ble_eq_true rfl) (Nat.le_of_ble_eq_true rfl) (Nat.le_of_ble_eq_true rfl) (Nat.le_of_ble_eq_true rfl) (by exact (Nat.le_of_ble_eq_true rfl)) rfl (List.forall_mem_cons.mpr ⟨rfl, fun _ h => nomatch h⟩) rfl dX8_setFormula_2 aw_kt (aw_kq ?_)
  refine r_if_ne (pc := 5) (tgt := 12) dX8_setFormula_5 (by decide) (fun h5 => ?_) (fun h => absurd (bi_eq.mp h) (by rw [decide_eq_true (show 0 ≤ nI fn ∧ nI fn ≤ 9 from nI_rng (n := 9) (by omega) (by decide))]; decide))
  refine r_aload_n (pc := 12) dX8_setFormula_12 rfl rfl ?_
  refine s_X8_95 (pc := 13) (kc' := 0) (ks' := 0) rfl rfl (am_firstError hP tn hM.1 hM.2.1) (mw_o hP) (Nat.le_of_ble_eq_true rfl) (Nat.le_of_ble_eq_true rfl) (Nat.le_of_ble_eq_true rfl) (Nat.le_of_ble_eq_true rfl) (by exact (Nat.le_of_ble_eq_true rfl)) rfl (List.forall_mem_cons.mpr ⟨rfl, fun _ h => nomatch h⟩) rfl dX8_setFormula_13 aw_kmt (aw_kmq (fun sc1 ar1 hag1 => ?_))
  refine r_iconst (pc := 16) (v := -1) dX8_setFormula_16 (by decide) ?_
  refine r_icmp_eq (pc := 17) (tgt := 24) dX8_setFormula_17 (by decide) (fun h17 => ?_) (fun h17 => ?_)
  · refine r_iconst (pc := 24) (v := 0) dX8_setFormula_24 (by decide) ?_
    refine mp_66 (pc := 25) hP rfl dX8_setFormula_25 ?_
    refine r_aload_n (pc := 28) dX8_setFormula_28 rfl rfl ?_
    refine mgv_66 (pc := 29) (x := 0) hP rfl rfl dX8_setFormula_29 ?_
    refine r_if_ne (pc := 32) (tgt := 83) dX8_setFormula_32 (by decide) (fun h => absurd h (by decide)) (fun _ => ?_)
    have h17b := h17
    have hpr := hpp (tlist (ar 0) 0 tn) (by rw [tlist_len]; exact hM.2.1) h17b
    refine r_aload_n (pc := 35) dX8_setFormula_35 rfl rfl ?_
    refine s_X8_126 (pc := 36) (kc' := 0) (ks' := 0) rfl rfl (am_layRow (n := (tlist (ar 0) 0 tn).length) (sc := (upd sc1 12 0)) hP ((upd_n _ _ (by decide)).trans ((hag1.1 1 (by decide)).trans hM.1)) hM.2.1 (row := (rowOf (tlist (ar 0) 0 tn))) (by rw [hag1.2 0 (by decide)]; exact hpr.1)) (mw_o hP) (Nat.le_of_ble_eq_true rfl) (Nat.le_of_ble_eq_true rfl) (Nat.le_of_ble_eq_true rfl) (Nat.le_of_ble_eq_true rfl) (by exact (Nat.le_of_ble_eq_true rfl)) rfl (List.forall_mem_cons.mpr ⟨rfl, fun _ h => nomatch h⟩) rfl dX8_setFormula_36 aw_kmt (aw_kmv (fun sc2 ar2 hC => ?_))
    refine r_aload_n (pc := 39) dX8_setFormula_39 rfl rfl ?_
    refine r_aload_n (pc := 40) dX8_setFormula_40 rfl rfl ?_
    refine r_aload_n (pc := 41) dX8_setFormula_41 rfl rfl ?_
    refine mg_44 (pc := 42) hP rfl dX8_setFormula_42 ?_
    refine r_iconst (pc := 45) (v := 0) dX8_setFormula_45 (by decide) ?_
    refine r_aload_n (pc := 46) dX8_setFormula_46 rfl rfl ?_
    refine mg_99 (pc := 47) hP rfl dX8_setFormula_47 ?_
    rw [hC.2.1]
    refine s_X8_129 (pc := 50) (kc' := 0) (ks' := 0) rfl rfl (am_typeOf17 hP 0 (by have := hpr.2.2.2; omega) hpr.2.2.2 (fun j x hx => by rw [Nat.zero_add]; exact hC.2.2.1 j x hx) hpr.2.2.1 (tyV_of hpr.2)) (mw_o hP) (Nat.le_of_ble_eq_true rfl) (Nat.le_of_ble_eq_true rfl) (Nat.le_of_ble_eq_true rfl) (Nat.le_of_ble_eq_true rfl) (by exact (Nat.le_of_ble_eq_true rfl)) rfl (List.forall_mem_cons.mpr ⟨rfl, (List.forall_mem_cons.mpr ⟨rfl, (List.forall_mem_cons.mpr ⟨rfl, (List.forall_mem_cons.mpr ⟨rfl, fun _ h => nomatch h⟩)⟩)⟩)⟩) rfl dX8_setFormula_50 aw_kmt (aw_kmq (fun sc3 ar3 hag3 => ?_))
    have h4 : ar3 4 = ar 4 := by rw [hag3.2 4 (by decide), hC.1.2 4 (by decide), hag1.2 4 (by decide)]
    refine r_aload_n (pc := 53) dX8_setFormula_53 rfl rfl ?_
    refine r_iload_n (pc := 54) dX8_setFormula_54 rfl rfl ?_
    have h17 : arow (ar3 17) (rowOf (tlist (ar 0) 0 tn)) := by rw [hag3.2 17 (by decide)]; exact hC.2.2.1
    have h18 : sc3 18 = nI (rowOf (tlist (ar 0) 0 tn)).length := by rw [hag3.1 18 (by decide)]; exact hC.2.1
    refine s_X8_133 (pc := 55) (kc' := 0) (ks' := 0) rfl rfl (am_dueType hP fn (by omega)) (mw_o hP) (Nat.le_of_ble_eq_true rfl) (Nat.le_of_ble_eq_true rfl) (Nat.le_of_ble_eq_true rfl) (Nat.le_of_ble_eq_true rfl) (by exact (Nat.le_of_ble_eq_true rfl)) rfl (List.forall_mem_cons.mpr ⟨rfl, (List.forall_mem_cons.mpr ⟨rfl, fun _ h => nomatch h⟩)⟩) rfl dX8_setFormula_55 aw_kt (aw_kq ?_)
    refine r_icmp_ne (pc := 58) (tgt := 75) dX8_setFormula_58 (by decide) (fun h58 => ?_) (fun h58 => ?_)
    · refine r_iconst (pc := 75) (v := 3) dX8_setFormula_75 (by decide) ?_
      refine r_goto (pc := 76) (tgt := 80) dX8_setFormula_76 (by decide) ?_
      refine mp_66 (pc := 80) hP rfl dX8_setFormula_80 ?_
      refine r_aload_n (pc := 83) dX8_setFormula_83 rfl rfl ?_
      refine mgv_66 (pc := 84) (x := 3) hP rfl rfl dX8_setFormula_84 ?_
      refine r_if_le (pc := 87) (tgt := 92) dX8_setFormula_87 (by decide) (fun h => absurd h (by decide)) (fun _ => ?_)
      refine r_iconst (pc := 90) (v := 0) dX8_setFormula_90 (by decide) ?_
      refine r_iret (pc := 91) rfl rfl dX8_setFormula_91 ?_
      exact ⟨0, _, _, rfl, rfl, Or.inr (Or.inl ⟨h17b, fun z => h58 (by rw [hag3.2 4 (by decide)] at h4; rw [h4, z.1, hag3.2 4 (by decide), h4]), upd_s _ _ _, ag_s (ag_tr (ag_s (ag_mono hag1 (by decide) (by decide)) 12 0 (by decide)) (ag_tr (ag_mono hC.1 (by decide) (by decide)) (ag_mono hag3 (by decide) (by decide)))) 12 _ (by decide)⟩)⟩
    · refine r_iload_n (pc := 61) dX8_setFormula_61 rfl rfl ?_
      refine r_bipush (pc := 62) (v := 6) dX8_setFormula_62 (by decide) ?_
      refine r_icmp_ge (pc := 64) (tgt := 79) dX8_setFormula_64 (by decide) (fun h64 => ?_) (fun h64 => ?_)
      · have hn6 : ¬ fn < 6 := fun z => nI_ge9 (b := 6) z (by decide) h64
        refine r_iconst (pc := 79) (v := 0) dX8_setFormula_79 (by decide) ?_
        refine mp_66 (pc := 80) hP rfl dX8_setFormula_80 ?_
        refine r_aload_n (pc := 83) dX8_setFormula_83 rfl rfl ?_
        refine mgv_66 (pc := 84) (x := 0) hP rfl rfl dX8_setFormula_84 ?_
        refine r_if_le (pc := 87) (tgt := 92) dX8_setFormula_87 (by decide) (fun _ => ?_) (fun h => absurd h (by decide))
        refine r_aload_n (pc := 92) dX8_setFormula_92 rfl rfl ?_
        refine mg_16 (pc := 93) hP rfl dX8_setFormula_93 ?_
        refine r_iload_n (pc := 96) dX8_setFormula_96 rfl rfl ?_
        refine r_aload_n (pc := 97) dX8_setFormula_97 rfl rfl ?_
        refine mg_99 (pc := 98) hP rfl dX8_setFormula_98 ?_
        refine msn_3 (pc := 101) (fn) hP ⟨rfl, by omega⟩ dX8_setFormula_101 ?_
        refine r_iconst (pc := 102) (v := 0) dX8_setFormula_102 (by decide) ?_
        refine r_istore_n (pc := 103) dX8_setFormula_103 rfl (Nat.le_of_ble_eq_true rfl) rfl ?_
        have h58' : tyV (ar3 4) (rowOf (tlist (ar 0) 0 tn)) = dueF (ar3 4) fn := by
          rw [hag3.2 4 (by decide)]
          rw [hag3.2 4 (by decide)] at h58
          exact h58
        have htk : takes (ar 4) R fn (rowOf (tlist (ar 0) 0 tn)) := ⟨by rw [← h4]; exact h58', fun z => hn6 z.1⟩
        have hag5 : ag [12, 14, 16, 18, 20] [13, 15, 17, 19, 21] sc ar (upd sc3 12 0) ar3 := ag_s (ag_tr (ag_s (ag_mono hag1 (by decide) (by decide)) 12 0 (by decide)) (ag_tr (ag_mono hC.1 (by decide) (by decide)) (ag_mono hag3 (by decide) (by decide)))) 12 _ (by decide)
        have hM5 := MI_ag hM hag5 (by decide) (by decide)
        refine sf_put hP fn (by omega) (rowOf (tlist (ar 0) 0 tn)) ((upd_n _ _ (by decide)).trans h18) hpr.2.2.2 (ar1 := va_up ar3 3 (upd (ar3 3) fn (upd sc3 12 0 18))) (by rw [va_up_ne _ _ (by decide)]; exact h17) (rowOf (tlist (ar 0) 0 tn)).length 0 _ (Nat.zero_add _) (fun j x hj => absurd hj (Nat.not_lt_zero _)) (fun j _ => rfl) (fun k _ => rfl) (fun ar6 q1 q2 q3 => ?_)
        refine r_iconst (pc := 135) (v := 0) dX8_setFormula_135 (by decide) ?_
        refine r_istore_n (pc := 136) dX8_setFormula_136 rfl (Nat.le_of_ble_eq_true rfl) rfl ?_
        refine r_iconst (pc := 137) (v := 0) dX8_setFormula_137 (by decide) ?_
        refine r_istore_n (pc := 138) dX8_setFormula_138 rfl (Nat.le_of_ble_eq_true rfl) rfl ?_
        have hMI : MI tn vn an (va_up R fn (rowOf (tlist (ar 0) 0 tn))) vv (upd sc3 12 0) ar6 := by
          obtain ⟨a1, a2, a3, a4, a5, a6, a7, a8⟩ := hM5
          refine ⟨a1, a2, a3, a4, a5, a6, fun its hi => ?_, fun a ha => by rw [q3 8 (by decide), va_up_ne _ _ (by decide)]; exact a8 a ha⟩
          by_cases hif : its = fn
          · subst hif
            rw [va_up_self]
            refine ⟨⟨hi, hpr.2.2.2, ?_, q1⟩, Or.inr hpr.2⟩
            rw [q3 3 (by decide), va_up_self, upd_s, upd_n _ _ (by decide)]
            exact h18
          · rw [va_up_ne _ _ hif]
            obtain ⟨⟨c1, c2, c3, c4⟩, c5⟩ := a7 its hi
            refine ⟨⟨c1, c2, ?_, fun i x hx => ?_⟩, c5⟩
            · rw [q3 3 (by decide), va_up_self, upd_n _ _ hif]; exact c3
            · have hil := (List.getElem?_eq_some_iff.mp hx).1
              rw [q2 (40 * its + i) (by have := hpr.2.2.2; omega), va_up_ne _ _ (by decide)]
              exact c4 i x hx
        refine sf_cnt hP (R := va_up R fn (rowOf (tlist (ar 0) 0 tn))) fn _ (fun k hk => ⟨(hMI.2.2.2.2.2.2.1 k (by omega)).1.2.2.1, (hMI.2.2.2.2.2.2.1 k (by omega)).1.2.1⟩) ?_ 10 0 0 rfl (Nat.zero_add _)
        refine ⟨_, _, _, rfl, rfl, Or.inr (Or.inr ⟨h17b, htk, upd_s _ _ _, ⟨fun k hk => hag5.1 k (fun z => hk (by revert z; simp)), fun k hk => ?_⟩, hMI, rfl⟩)⟩
        rw [q3 k (fun z => hk (by rw [z]; decide)), va_up_ne _ _ (fun z => hk (by rw [z]; decide))]
        exact hag5.2 k (fun z => hk (by simp at z ⊢; omega))
      · have hf6 : fn < 6 := by
          rcases Nat.lt_or_ge fn 6 with z | z
          · exact z
          · exact absurd (nI_le (a := 6) z (by omega)) h64
        have hR3 := (MI_ag hM (ag_tr (ag_s (ag_mono (Ks' := [12, 14, 16, 18, 20]) (Ka' := [13, 15, 17, 19, 21]) hag1 (by decide) (by decide)) 12 0 (by decide)) (ag_tr (ag_mono hC.1 (by decide) (by decide)) (ag_mono hag3 (by decide) (by decide)))) (by decide) (by decide)).2.2.2.2.2.2.1
        refine r_aload_n (pc := 67) dX8_setFormula_67 rfl rfl ?_
        refine r_iload_n (pc := 68) dX8_setFormula_68 rfl rfl ?_
        refine s_X8_152 (pc := 69) (kc' := 0) (ks' := 0) rfl rfl (am_isReached hP hR3 h18 hpr.2.2.2 h17 fn hf6) (mw_o hP) (Nat.le_of_ble_eq_true rfl) (Nat.le_of_ble_eq_true rfl) (Nat.le_of_ble_eq_true rfl) (Nat.le_of_ble_eq_true rfl) (by exact (Nat.le_of_ble_eq_true rfl)) rfl (List.forall_mem_cons.mpr ⟨rfl, (List.forall_mem_cons.mpr ⟨rfl, fun _ h => nomatch h⟩)⟩) rfl dX8_setFormula_69 aw_kt (aw_kq ?_)
        refine r_if_eq (pc := 72) (tgt := 79) dX8_setFormula_72 (by decide) (fun h72 => ?_) (fun h72 => ?_)
        · refine r_iconst (pc := 79) (v := 0) dX8_setFormula_79 (by decide) ?_
          refine mp_66 (pc := 80) hP rfl dX8_setFormula_80 ?_
          refine r_aload_n (pc := 83) dX8_setFormula_83 rfl rfl ?_
          refine mgv_66 (pc := 84) (x := 0) hP rfl rfl dX8_setFormula_84 ?_
          refine r_if_le (pc := 87) (tgt := 92) dX8_setFormula_87 (by decide) (fun _ => ?_) (fun h => absurd h (by decide))
          refine r_aload_n (pc := 92) dX8_setFormula_92 rfl rfl ?_
          refine mg_16 (pc := 93) hP rfl dX8_setFormula_93 ?_
          refine r_iload_n (pc := 96) dX8_setFormula_96 rfl rfl ?_
          refine r_aload_n (pc := 97) dX8_setFormula_97 rfl rfl ?_
          refine mg_99 (pc := 98) hP rfl dX8_setFormula_98 ?_
          refine msn_3 (pc := 101) (fn) hP ⟨rfl, by omega⟩ dX8_setFormula_101 ?_
          refine r_iconst (pc := 102) (v := 0) dX8_setFormula_102 (by decide) ?_
          refine r_istore_n (pc := 103) dX8_setFormula_103 rfl (Nat.le_of_ble_eq_true rfl) rfl ?_
          have h58' : tyV (ar3 4) (rowOf (tlist (ar 0) 0 tn)) = dueF (ar3 4) fn := by
            rw [hag3.2 4 (by decide)]
            rw [hag3.2 4 (by decide)] at h58
            exact h58
          have htk : takes (ar 4) R fn (rowOf (tlist (ar 0) 0 tn)) := ⟨by rw [← h4]; exact h58', fun z => absurd z.2 (by rw [show bitI (rcR R fn 6 (msk 0 (rowOf (tlist (ar 0) 0 tn)))) fn = false from bi_eq.mp h72]; decide)⟩
          have hag5 : ag [12, 14, 16, 18, 20] [13, 15, 17, 19, 21] sc ar (upd sc3 12 0) ar3 := ag_s (ag_tr (ag_s (ag_mono hag1 (by decide) (by decide)) 12 0 (by decide)) (ag_tr (ag_mono hC.1 (by decide) (by decide)) (ag_mono hag3 (by decide) (by decide)))) 12 _ (by decide)
          have hM5 := MI_ag hM hag5 (by decide) (by decide)
          refine sf_put hP fn (by omega) (rowOf (tlist (ar 0) 0 tn)) ((upd_n _ _ (by decide)).trans h18) hpr.2.2.2 (ar1 := va_up ar3 3 (upd (ar3 3) fn (upd sc3 12 0 18))) (by rw [va_up_ne _ _ (by decide)]; exact h17) (rowOf (tlist (ar 0) 0 tn)).length 0 _ (Nat.zero_add _) (fun j x hj => absurd hj (Nat.not_lt_zero _)) (fun j _ => rfl) (fun k _ => rfl) (fun ar6 q1 q2 q3 => ?_)
          refine r_iconst (pc := 135) (v := 0) dX8_setFormula_135 (by decide) ?_
          refine r_istore_n (pc := 136) dX8_setFormula_136 rfl (Nat.le_of_ble_eq_true rfl) rfl ?_
          refine r_iconst (pc := 137) (v := 0) dX8_setFormula_137 (by decide) ?_
          refine r_istore_n (pc := 138) dX8_setFormula_138 rfl (Nat.le_of_ble_eq_true rfl) rfl ?_
          have hMI : MI tn vn an (va_up R fn (rowOf (tlist (ar 0) 0 tn))) vv (upd sc3 12 0) ar6 := by
            obtain ⟨a1, a2, a3, a4, a5, a6, a7, a8⟩ := hM5
            refine ⟨a1, a2, a3, a4, a5, a6, fun its hi => ?_, fun a ha => by rw [q3 8 (by decide), va_up_ne _ _ (by decide)]; exact a8 a ha⟩
            by_cases hif : its = fn
            · subst hif
              rw [va_up_self]
              refine ⟨⟨hi, hpr.2.2.2, ?_, q1⟩, Or.inr hpr.2⟩
              rw [q3 3 (by decide), va_up_self, upd_s, upd_n _ _ (by decide)]
              exact h18
            · rw [va_up_ne _ _ hif]
              obtain ⟨⟨c1, c2, c3, c4⟩, c5⟩ := a7 its hi
              refine ⟨⟨c1, c2, ?_, fun i x hx => ?_⟩, c5⟩
              · rw [q3 3 (by decide), va_up_self, upd_n _ _ hif]; exact c3
              · have hil := (List.getElem?_eq_some_iff.mp hx).1
                rw [q2 (40 * its + i) (by have := hpr.2.2.2; omega), va_up_ne _ _ (by decide)]
                exact c4 i x hx
          refine sf_cnt hP (R := va_up R fn (rowOf (tlist (ar 0) 0 tn))) fn _ (fun k hk => ⟨(hMI.2.2.2.2.2.2.1 k (by omega)).1.2.2.1, (hMI.2.2.2.2.2.2.1 k (by omega)).1.2.1⟩) ?_ 10 0 0 rfl (Nat.zero_add _)
          refine ⟨_, _, _, rfl, rfl, Or.inr (Or.inr ⟨h17b, htk, upd_s _ _ _, ⟨fun k hk => hag5.1 k (fun z => hk (by revert z; simp)), fun k hk => ?_⟩, hMI, rfl⟩)⟩
          rw [q3 k (fun z => hk (by rw [z]; decide)), va_up_ne _ _ (fun z => hk (by rw [z]; decide))]
          exact hag5.2 k (fun z => hk (by simp at z ⊢; omega))
        · refine r_iconst (pc := 75) (v := 3) dX8_setFormula_75 (by decide) ?_
          refine r_goto (pc := 76) (tgt := 80) dX8_setFormula_76 (by decide) ?_
          refine mp_66 (pc := 80) hP rfl dX8_setFormula_80 ?_
          refine r_aload_n (pc := 83) dX8_setFormula_83 rfl rfl ?_
          refine mgv_66 (pc := 84) (x := 3) hP rfl rfl dX8_setFormula_84 ?_
          refine r_if_le (pc := 87) (tgt := 92) dX8_setFormula_87 (by decide) (fun h => absurd h (by decide)) (fun _ => ?_)
          refine r_iconst (pc := 90) (v := 0) dX8_setFormula_90 (by decide) ?_
          refine r_iret (pc := 91) rfl rfl dX8_setFormula_91 ?_
          exact ⟨0, _, _, rfl, rfl, Or.inr (Or.inl ⟨h17b, fun z => z.2 ⟨hf6, by have h9 := bi_ne.mp h72; exact h9⟩, upd_s _ _ _, ag_s (ag_tr (ag_s (ag_mono hag1 (by decide) (by decide)) 12 0 (by decide)) (ag_tr (ag_mono hC.1 (by decide) (by decide)) (ag_mono hag3 (by decide) (by decide)))) 12 _ (by decide)⟩)⟩
  · refine r_iconst (pc := 20) (v := 2) dX8_setFormula_20 (by decide) ?_
    refine r_goto (pc := 21) (tgt := 25) dX8_setFormula_21 (by decide) ?_
    refine mp_66 (pc := 25) hP rfl dX8_setFormula_25 ?_
    refine r_aload_n (pc := 28) dX8_setFormula_28 rfl rfl ?_
    refine mgv_66 (pc := 29) (x := 2) hP rfl rfl dX8_setFormula_29 ?_
    refine r_if_ne (pc := 32) (tgt := 83) dX8_setFormula_32 (by decide) (fun _ => ?_) (fun h => absurd h (by decide))
    refine r_aload_n (pc := 83) dX8_setFormula_83 rfl rfl ?_
    refine mgv_66 (pc := 84) (x := 2) hP rfl rfl dX8_setFormula_84 ?_
    refine r_if_le (pc := 87) (tgt := 92) dX8_setFormula_87 (by decide) (fun h => absurd h (by decide)) (fun _ => ?_)
    refine r_iconst (pc := 90) (v := 0) dX8_setFormula_90 (by decide) ?_
    refine r_iret (pc := 91) rfl rfl dX8_setFormula_91 ?_
    exact ⟨0, _, _, rfl, rfl, Or.inl ⟨h17, upd_s _ _ _, ag_s (ag_mono hag1 (by decide) (by decide)) 12 _ (by decide)⟩⟩

set_option maxRecDepth 100000 in
set_option maxHeartbeats 4000000 in
theorem am_setFormulaX {G : aw_G} {P T : List va_E} {sc : Nat → Int32} {ar : Nat → Nat → Int32} (hP : P.length = 12) (f : Int32) (hf : ¬ (0 ≤ f ∧ f ≤ 9)) : AM G fX8_setFormula [.ref 12, .int f] (mw P sc ar T) (qe P T (fun v sc2 ar2 => sc2 12 = 1 ∧ ag [12] [] sc ar sc2 ar2)) := by
  refine AM_of (by decide) rfl rfl (Nat.le_of_ble_eq_true rfl) ?_
  show AW G fX8_setFormula 0 0 (mw P sc ar T) 0 [some (.ref 12), some (.int f), none, none] [] _
  refine r_aload_n (pc := 0) dX8_setFormula_0 rfl rfl ?_
  refine r_iload_n (pc := 1) dX8_setFormula_1 rfl rfl ?_
  refine s_X8_149 (pc := 2) (kc' := 0) (ks' := 0) rfl rfl (am_isFormula _)  (Nat.le_of_ble_eq_true rfl) (Nat.le_of_ble_eq_true rfl) (Nat.le_of_ble_eq_true rfl) (Nat.le_of_ble_eq_true rfl) (by exact (Nat.le_of_ble_eq_true rfl)) rfl (List.forall_mem_cons.mpr ⟨rfl, fun _ h => nomatch h⟩) rfl dX8_setFormula_2 aw_kt (aw_kq ?_)
  refine r_if_ne (pc := 5) (tgt := 12) dX8_setFormula_5 (by decide) (fun h => absurd (bi_ne.mp h) (by rw [decide_eq_false hf]; decide)) (fun h5 => ?_)
  refine r_iconst (pc := 8) (v := 1) dX8_setFormula_8 (by decide) ?_
  refine r_goto (pc := 9) (tgt := 25) dX8_setFormula_9 (by decide) ?_
  refine mp_66 (pc := 25) hP rfl dX8_setFormula_25 ?_
  refine r_aload_n (pc := 28) dX8_setFormula_28 rfl rfl ?_
  refine mgv_66 (pc := 29) (x := 1) hP rfl rfl dX8_setFormula_29 ?_
  refine r_if_ne (pc := 32) (tgt := 83) dX8_setFormula_32 (by decide) (fun _ => ?_) (fun h => absurd h (by decide))
  refine r_aload_n (pc := 83) dX8_setFormula_83 rfl rfl ?_
  refine mgv_66 (pc := 84) (x := 1) hP rfl rfl dX8_setFormula_84 ?_
  refine r_if_le (pc := 87) (tgt := 92) dX8_setFormula_87 (by decide) (fun h => absurd h (by decide)) (fun _ => ?_)
  refine r_iconst (pc := 90) (v := 0) dX8_setFormula_90 (by decide) ?_
  refine r_iret (pc := 91) rfl rfl dX8_setFormula_91 ?_
  exact ⟨0, _, _, rfl, rfl, upd_s _ _ _, ag_s ag_rf 12 _ (by decide)⟩

end M6
