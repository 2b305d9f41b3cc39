/-! ===== the class: a Form: fieldsThatFall ===== -/
section S24
def ffT (ty ty2 : Nat → Int32) : Nat → Nat → Int32 → Int32
  | _, 0, s => s
  | f, m + 1, s => ffT ty ty2 (f + 1) m (if ty f ≠ 0 ∧ ty f ≠ ty2 f then s ||| b1 f else s)
def ffL (R6 Rd : Nat → List Int32) : Nat → Nat → Int32 → Int32
  | _, 0, s => s
  | k, m + 1, s => ffL R6 Rd (k + 1) m (if Rd k ≠ [] ∧ R6 k = Rd k then s ||| msk 0 (R6 k) else s)
set_option maxRecDepth 100000 in
set_option maxHeartbeats 4000000 in
theorem ff_loop1 {G : aw_G} {ow : Nat → Nat} {t a y q o h : Nat} {ty : Nat → Int32} {R6 : Nat → List Int32} {gd : Nat → Option Nat} {w : List va_E} (hM : FM ow w t a y q o h ty R6 gd) {t2 a2 y2 q2 o2 h2 : Nat} {ty2 : Nat → Int32} {R2 : Nat → List Int32} {gd2 : Nat → Option Nat} (hL : FM ow w t2 a2 y2 q2 o2 h2 ty2 R2 gd2) {t3 x : Nat} {Rd : Nat → List Int32} (hD : DA ow w t3 x Rd) {Q : aw_R → List va_E → Prop} {v : Int32} (kk : AW G fX1_fieldsThatFall 0 0 w 49 [some (.ref a), some (.ref a2), some (.ref x), some (.int v), none, none, none] [] Q) : ∀ (m k : Nat) (s : Int32), k + m = 6 → ffT ty ty2 k m s = v → AW G fX1_fieldsThatFall 0 0 w 5 [some (.ref a), some (.ref a2), some (.ref x), some (.int s), some (.int (nI k)), none, none] [] Q := by
  intro m
  induction m with
  | zero =>
    intro k s hk hv
    refine r_iload (pc := 5) dX1_fieldsThatFall_5 rfl ?_
    refine r_bipush (pc := 7) (v := 6) dX1_fieldsThatFall_7 (by decide) ?_
    refine r_icmp_ge (pc := 9) (tgt := 49) dX1_fieldsThatFall_9 (by decide) (fun h9 => ?_) (fun h => absurd (by rw [show k = 6 by omega]; decide) h)
    refine AW_drop 4 rfl ?_
    have hv9 : s = v := hv
    subst hv9
    exact kk
  | succ m ih =>
    intro k s hkm hv
    have hk : k < 6 := by omega
    refine r_iload (pc := 5) dX1_fieldsThatFall_5 rfl ?_
    refine r_bipush (pc := 7) (v := 6) dX1_fieldsThatFall_7 (by decide) ?_
    refine r_icmp_ge (pc := 9) (tgt := 49) dX1_fieldsThatFall_9 (by decide) (fun h => absurd h (nI_ge9 hk (by decide))) (fun h9 => ?_)
    refine r_aload_n (pc := 12) dX1_fieldsThatFall_12 rfl rfl ?_
    refine r_iload (pc := 13) dX1_fieldsThatFall_13 rfl ?_
    refine s_X1_89 (pc := 15) (kc' := 0) (ks' := 0) rfl rfl (ac_typeOfField hM hk) hM.1.2 (Nat.le_of_ble_eq_true rfl) (Nat.le_of_ble_eq_true rfl) (Nat.le_of_ble_eq_true rfl) (Nat.le_of_ble_eq_true rfl) (by exact (Nat.le_of_ble_eq_true rfl)) rfl (List.forall_mem_cons.mpr ⟨rfl, (List.forall_mem_cons.mpr ⟨rfl, fun _ h => nomatch h⟩)⟩) rfl dX1_fieldsThatFall_15 aw_kt (aw_kq ?_)
    refine r_istore (pc := 18) dX1_fieldsThatFall_18 (Nat.le_of_ble_eq_true rfl) rfl ?_
    refine r_iload (pc := 20) dX1_fieldsThatFall_20 rfl ?_
    refine r_if_eq (pc := 22) (tgt := 43) dX1_fieldsThatFall_22 (by decide) (fun h22 => ?_) (fun h22 => ?_)
    · refine r_iincK (pc := 43) (k9 := 1) dX1_fieldsThatFall_43 (by decide) rfl (Nat.le_of_ble_eq_true rfl) rfl ?_
      refine r_goto (pc := 46) (tgt := 5) dX1_fieldsThatFall_46 (by decide) ?_
      refine AW_drop 5 rfl ?_
      rw [nI_1]
      exact ih (k + 1) s (by omega) (by rw [← hv, ffT, if_neg (fun z => z.1 h22)])
    · refine r_iload (pc := 25) dX1_fieldsThatFall_25 rfl ?_
      refine r_aload_n (pc := 27) dX1_fieldsThatFall_27 rfl rfl ?_
      refine r_iload (pc := 28) dX1_fieldsThatFall_28 rfl ?_
      refine s_X1_89 (pc := 30) (kc' := 0) (ks' := 0) rfl rfl (ac_typeOfField hL hk) hL.1.2 (Nat.le_of_ble_eq_true rfl) (Nat.le_of_ble_eq_true rfl) (Nat.le_of_ble_eq_true rfl) (Nat.le_of_ble_eq_true rfl) (by exact (Nat.le_of_ble_eq_true rfl)) rfl (List.forall_mem_cons.mpr ⟨rfl, (List.forall_mem_cons.mpr ⟨rfl, fun _ h => nomatch h⟩)⟩) rfl dX1_fieldsThatFall_30 aw_kt (aw_kq ?_)
      refine r_icmp_eq (pc := 33) (tgt := 43) dX1_fieldsThatFall_33 (by decide) (fun h33 => ?_) (fun h33 => ?_)
      · refine r_iincK (pc := 43) (k9 := 1) dX1_fieldsThatFall_43 (by decide) rfl (Nat.le_of_ble_eq_true rfl) rfl ?_
        refine r_goto (pc := 46) (tgt := 5) dX1_fieldsThatFall_46 (by decide) ?_
        refine AW_drop 5 rfl ?_
        rw [nI_1]
        exact ih (k + 1) s (by omega) (by rw [← hv, ffT, if_neg (fun z => z.2 h33)])
      · refine r_iload_n (pc := 36) dX1_fieldsThatFall_36 rfl rfl ?_
        refine r_iconst (pc := 37) (v := 1) dX1_fieldsThatFall_37 (by decide) ?_
        refine r_iload (pc := 38) dX1_fieldsThatFall_38 rfl ?_
        refine r_ishl (pc := 40) dX1_fieldsThatFall_40 ?_
        refine r_ior (pc := 41) dX1_fieldsThatFall_41 ?_
        refine r_istore_n (pc := 42) dX1_fieldsThatFall_42 rfl (Nat.le_of_ble_eq_true rfl) rfl ?_
        refine r_iincK (pc := 43) (k9 := 1) dX1_fieldsThatFall_43 (by decide) rfl (Nat.le_of_ble_eq_true rfl) rfl ?_
        refine r_goto (pc := 46) (tgt := 5) dX1_fieldsThatFall_46 (by decide) ?_
        refine AW_drop 5 rfl ?_
        rw [nI_1]
        exact ih (k + 1) (s ||| b1 k) (by omega) (by rw [← hv, ffT, if_pos ⟨h22, h33⟩])
set_option maxRecDepth 100000 in
set_option maxHeartbeats 4000000 in
theorem ff_loop2 {G : aw_G} {ow : Nat → Nat} {t a y q o h : Nat} {ty : Nat → Int32} {R6 : Nat → List Int32} {gd : Nat → Option Nat} {w : List va_E} (hM : FM ow w t a y q o h ty R6 gd) {t2 a2 y2 q2 o2 h2 : Nat} {ty2 : Nat → Int32} {R2 : Nat → List Int32} {gd2 : Nat → Option Nat} (hL : FM ow w t2 a2 y2 q2 o2 h2 ty2 R2 gd2) {t3 x : Nat} {Rd : Nat → List Int32} (hD : DA ow w t3 x Rd) (v : Int32) : ∀ (m k : Nat) (s : Int32), k + m = 10 → ffL R6 Rd k m s = v → AW G fX1_fieldsThatFall 0 0 w 52 [some (.ref a), some (.ref a2), some (.ref x), some (.int s), some (.int (nI k)), none, none] [] (qx (.inl (some (.int v))) w) := by
  obtain ⟨dd, hd1, hd2⟩ := hD
  intro m
  induction m with
  | zero =>
    intro k s hk hv
    refine r_iload (pc := 52) dX1_fieldsThatFall_52 rfl ?_
    refine r_bipush (pc := 54) (v := 10) dX1_fieldsThatFall_54 (by decide) ?_
    refine r_icmp_ge (pc := 56) (tgt := 114) dX1_fieldsThatFall_56 (by decide) (fun h56 => ?_) (fun h => absurd (by rw [show k = 10 by omega]; decide) h)
    refine r_iload_n (pc := 114) dX1_fieldsThatFall_114 rfl rfl ?_
    refine r_iret (pc := 115) rfl rfl dX1_fieldsThatFall_115 ?_
    exact ⟨by rw [← hv]; rfl, rfl⟩
  | succ m ih =>
    intro k s hkm hv
    have hk : k < 10 := by omega
    refine r_iload (pc := 52) dX1_fieldsThatFall_52 rfl ?_
    refine r_bipush (pc := 54) (v := 10) dX1_fieldsThatFall_54 (by decide) ?_
    refine r_icmp_ge (pc := 56) (tgt := 114) dX1_fieldsThatFall_56 (by decide) (fun h => absurd h (nI_ge9 hk (by decide))) (fun h56 => ?_)
    refine r_iload (pc := 59) dX1_fieldsThatFall_59 rfl ?_
    refine r_aload_n (pc := 61) dX1_fieldsThatFall_61 rfl rfl ?_
    refine r_alen (pc := 62) (t := 5) (v := nI 10) (fun _ => rfl) hd1.2 rfl dX1_fieldsThatFall_62 ?_
    refine r_icmp_ge (pc := 63) (tgt := 114) dX1_fieldsThatFall_63 (by decide) (fun h => absurd h (nI_ge9 hk (by decide))) (fun h63 => ?_)
    refine r_aload_n (pc := 66) dX1_fieldsThatFall_66 rfl rfl ?_
    refine r_iload (pc := 67) dX1_fieldsThatFall_67 rfl ?_
    refine s_X1_38 (pc := 69) (kc' := 0) (ks' := 0) rfl rfl (ac_formulaAt hM hk) hM.1.2 (Nat.le_of_ble_eq_true rfl) (Nat.le_of_ble_eq_true rfl) (Nat.le_of_ble_eq_true rfl) (Nat.le_of_ble_eq_true rfl) (by exact (Nat.le_of_ble_eq_true rfl)) rfl (List.forall_mem_cons.mpr ⟨rfl, (List.forall_mem_cons.mpr ⟨rfl, fun _ h => nomatch h⟩)⟩) rfl dX1_fieldsThatFall_69 aw_kt (aw_kq ?_)
    have hO := hM.2.2.2.1 k hk
    cases hg : gd k with
    | none =>
      rw [hg] at hO
      refine r_astoreN (pc := 72) dX1_fieldsThatFall_72 (Nat.le_of_ble_eq_true rfl) rfl ?_
      refine r_aload_n (pc := 74) dX1_fieldsThatFall_74 rfl rfl ?_
      refine r_iload (pc := 75) dX1_fieldsThatFall_75 rfl ?_
      refine r_aaload (pc := 77) (t := 5) (fun _ => rfl) hd1.2 (vp_in_nI (n := k) hk (Nat.le_of_ble_eq_true rfl)) dX1_fieldsThatFall_77 ?_
      rw [nI_clamp (by omega)]
      have hG := hd2 k hk
      cases hg2 : dd k with
      | none =>
        rw [hg2] at hG
        refine r_astoreN (pc := 78) dX1_fieldsThatFall_78 (Nat.le_of_ble_eq_true rfl) rfl ?_
        refine r_aloadN (pc := 80) dX1_fieldsThatFall_80 rfl ?_
        refine r_ifnullN (pc := 82) (tgt := 108) dX1_fieldsThatFall_82 (by decide) ?_
        refine r_iincK (pc := 108) (k9 := 1) dX1_fieldsThatFall_108 (by decide) rfl (Nat.le_of_ble_eq_true rfl) rfl ?_
        refine r_goto (pc := 111) (tgt := 52) dX1_fieldsThatFall_111 (by decide) ?_
        refine AW_drop 6 rfl ?_
        refine AW_drop 5 rfl ?_
        rw [nI_1]
        exact ih (k + 1) s (by omega) (by rw [← hv, ffL, if_neg (fun z => z.1 hG)])
      | some g =>
        rw [hg2] at hG
        refine r_astore (pc := 78) dX1_fieldsThatFall_78 (Nat.le_of_ble_eq_true rfl) rfl ?_
        refine r_aloadN (pc := 80) dX1_fieldsThatFall_80 rfl ?_
        refine r_ifnullN (pc := 82) (tgt := 108) dX1_fieldsThatFall_82 (by decide) ?_
        refine r_iincK (pc := 108) (k9 := 1) dX1_fieldsThatFall_108 (by decide) rfl (Nat.le_of_ble_eq_true rfl) rfl ?_
        refine r_goto (pc := 111) (tgt := 52) dX1_fieldsThatFall_111 (by decide) ?_
        refine AW_drop 6 rfl ?_
        refine AW_drop 5 rfl ?_
        rw [nI_1]
        exact ih (k + 1) s (by omega) (by rw [← hv, ffL, if_neg (fun z => z.1 (z.2.symm.trans hO))])
    | some f =>
      rw [hg] at hO
      refine r_astore (pc := 72) dX1_fieldsThatFall_72 (Nat.le_of_ble_eq_true rfl) rfl ?_
      refine r_aload_n (pc := 74) dX1_fieldsThatFall_74 rfl rfl ?_
      refine r_iload (pc := 75) dX1_fieldsThatFall_75 rfl ?_
      refine r_aaload (pc := 77) (t := 5) (fun _ => rfl) hd1.2 (vp_in_nI (n := k) hk (Nat.le_of_ble_eq_true rfl)) dX1_fieldsThatFall_77 ?_
      rw [nI_clamp (by omega)]
      have hG := hd2 k hk
      cases hg2 : dd k with
      | none =>
        rw [hg2] at hG
        refine r_astoreN (pc := 78) dX1_fieldsThatFall_78 (Nat.le_of_ble_eq_true rfl) rfl ?_
        refine r_aload (pc := 80) dX1_fieldsThatFall_80 rfl ?_
        refine r_ifnull (pc := 82) dX1_fieldsThatFall_82 ?_
        refine r_aloadN (pc := 85) dX1_fieldsThatFall_85 rfl ?_
        refine r_ifnullN (pc := 87) (tgt := 108) dX1_fieldsThatFall_87 (by decide) ?_
        refine r_iincK (pc := 108) (k9 := 1) dX1_fieldsThatFall_108 (by decide) rfl (Nat.le_of_ble_eq_true rfl) rfl ?_
        refine r_goto (pc := 111) (tgt := 52) dX1_fieldsThatFall_111 (by decide) ?_
        refine AW_drop 6 rfl ?_
        refine AW_drop 5 rfl ?_
        rw [nI_1]
        exact ih (k + 1) s (by omega) (by rw [← hv, ffL, if_neg (fun z => z.1 hG)])
      | some g =>
        rw [hg2] at hG
        obtain ⟨f2, hp1, hp2⟩ := hO.2.2.2.2.2.1
        obtain ⟨f4, hp3, hp4⟩ := hG.2.2.2.2.2.1
        refine r_astore (pc := 78) dX1_fieldsThatFall_78 (Nat.le_of_ble_eq_true rfl) rfl ?_
        refine r_aload (pc := 80) dX1_fieldsThatFall_80 rfl ?_
        refine r_ifnull (pc := 82) dX1_fieldsThatFall_82 ?_
        refine r_aload (pc := 85) dX1_fieldsThatFall_85 rfl ?_
        refine r_ifnull (pc := 87) dX1_fieldsThatFall_87 ?_
        refine r_aload (pc := 90) dX1_fieldsThatFall_90 rfl ?_
        refine r_aload (pc := 92) dX1_fieldsThatFall_92 rfl ?_
        refine s_X1_92 (pc := 94) (kc' := 0) (ks' := 0) rfl rfl (ac_looksLike hO.2.2.2.1.2 hG.2.2.2.1.2 hp1.2 hp3.2 hO.2.2.1 hp2 hp4 hG.2.2.1) hO.2.2.2.1.2 (Nat.le_of_ble_eq_true rfl) (Nat.le_of_ble_eq_true rfl) (Nat.le_of_ble_eq_true rfl) (Nat.le_of_ble_eq_true rfl) (by exact (Nat.le_of_ble_eq_true rfl)) rfl (List.forall_mem_cons.mpr ⟨rfl, (List.forall_mem_cons.mpr ⟨rfl, fun _ h => nomatch h⟩)⟩) rfl dX1_fieldsThatFall_94 aw_kt (aw_kq ?_)
        refine r_if_eq (pc := 97) (tgt := 108) dX1_fieldsThatFall_97 (by decide) (fun h97 => ?_) (fun h97 => ?_)
        · refine r_iincK (pc := 108) (k9 := 1) dX1_fieldsThatFall_108 (by decide) rfl (Nat.le_of_ble_eq_true rfl) rfl ?_
          refine r_goto (pc := 111) (tgt := 52) dX1_fieldsThatFall_111 (by decide) ?_
          refine AW_drop 6 rfl ?_
          refine AW_drop 5 rfl ?_
          rw [nI_1]
          exact ih (k + 1) s (by omega) (by rw [← hv, ffL, if_neg (fun z => absurd (decide_eq_true (by rw [z.2] : plS (R6 k) = plS (Rd k))) (by rw [bi_eq.mp h97]; decide))])
        · refine r_iload_n (pc := 100) dX1_fieldsThatFall_100 rfl rfl ?_
          refine r_aload (pc := 101) dX1_fieldsThatFall_101 rfl ?_
          refine s_X1_58 (pc := 103) (kc' := 0) (ks' := 0) rfl rfl (ac_letterSet (m := 0) (pl := fun _ => 0) hO.2.2.2.1.2) hO.2.2.2.1.2 (Nat.le_of_ble_eq_true rfl) (Nat.le_of_ble_eq_true rfl) (Nat.le_of_ble_eq_true rfl) (Nat.le_of_ble_eq_true rfl) (by exact (Nat.le_of_ble_eq_true rfl)) rfl (List.forall_mem_cons.mpr ⟨rfl, fun _ h => nomatch h⟩) rfl dX1_fieldsThatFall_103 aw_kt (aw_kq ?_)
          refine r_ior (pc := 106) dX1_fieldsThatFall_106 ?_
          refine r_istore_n (pc := 107) dX1_fieldsThatFall_107 rfl (Nat.le_of_ble_eq_true rfl) rfl ?_
          refine r_iincK (pc := 108) (k9 := 1) dX1_fieldsThatFall_108 (by decide) rfl (Nat.le_of_ble_eq_true rfl) rfl ?_
          refine r_goto (pc := 111) (tgt := 52) dX1_fieldsThatFall_111 (by decide) ?_
          refine AW_drop 6 rfl ?_
          refine AW_drop 5 rfl ?_
          rw [nI_1]
          exact ih (k + 1) (s ||| msk 0 (R6 k)) (by omega) (by rw [← hv, ffL, if_pos ⟨wfr_ne hG.1, (plS_eq hO.1 hO.2.1 hG.1 hG.2.1).mp (of_decide_eq_true (bi_ne.mp h97))⟩])
set_option maxRecDepth 100000 in
set_option maxHeartbeats 4000000 in
theorem ac_fieldsThatFall {G : aw_G} {ow : Nat → Nat} {t a y q o h : Nat} {ty : Nat → Int32} {R6 : Nat → List Int32} {gd : Nat → Option Nat} {w : List va_E} (hM : FM ow w t a y q o h ty R6 gd) {t2 a2 y2 q2 o2 h2 : Nat} {ty2 : Nat → Int32} {R2 : Nat → List Int32} {gd2 : Nat → Option Nat} (hL : FM ow w t2 a2 y2 q2 o2 h2 ty2 R2 gd2) {t3 x : Nat} {Rd : Nat → List Int32} (hD : DA ow w t3 x Rd) : AM G fX1_fieldsThatFall [.ref a, .ref a2, .ref x] w (qx (.inl (some (.int (ffL R6 Rd 0 10 (ffT ty ty2 0 6 0))))) w) := by
  refine AM_of (by decide) rfl rfl (Nat.le_of_ble_eq_true rfl) ?_
  show AW G fX1_fieldsThatFall 0 0 w 0 [some (.ref a), some (.ref a2), some (.ref x), none, none, none, none] [] _
  refine r_iconst (pc := 0) (v := 0) dX1_fieldsThatFall_0 (by decide) ?_
  refine r_istore_n (pc := 1) dX1_fieldsThatFall_1 rfl (Nat.le_of_ble_eq_true rfl) rfl ?_
  refine r_iconst (pc := 2) (v := 0) dX1_fieldsThatFall_2 (by decide) ?_
  refine r_istore (pc := 3) dX1_fieldsThatFall_3 (Nat.le_of_ble_eq_true rfl) rfl ?_
  refine ff_loop1 hM hL hD ?_ 6 0 0 rfl rfl
  refine r_iconst (pc := 49) (v := 0) dX1_fieldsThatFall_49 (by decide) ?_
  refine r_istore (pc := 50) dX1_fieldsThatFall_50 (Nat.le_of_ble_eq_true rfl) rfl ?_
  exact ff_loop2 hM hL hD _ 10 0 _ rfl rfl

end S24
theorem ffT_bt {ty ty2 : Nat → Int32} {i : Nat} (hi : i < 32) : ∀ (m f : Nat) (s : Int32), f + m ≤ 32 → bt (ffT ty ty2 f m s) i = (bt s i || decide ((f ≤ i ∧ i < f + m) ∧ ty i ≠ 0 ∧ ty i ≠ ty2 i))
  | 0, f, s, _ => by rw [ffT, decide_eq_false (by omega), Bool.or_false]
  | m + 1, f, s, h => by
    rw [ffT, ffT_bt hi m (f + 1) _ (by omega)]
    by_cases e : i = f
    · subst e
      rw [decide_eq_false (show ¬ ((i + 1 ≤ i ∧ i < i + 1 + m) ∧ ty i ≠ 0 ∧ ty i ≠ ty2 i) by omega), Bool.or_false]
      by_cases c : ty i ≠ 0 ∧ ty i ≠ ty2 i
      · rw [if_pos c, b_or, bt_b1 hi hi, decide_eq_true rfl, decide_eq_true (⟨by omega, c⟩ : (i ≤ i ∧ i < i + (m + 1)) ∧ ty i ≠ 0 ∧ ty i ≠ ty2 i)]
      · rw [if_neg c, decide_eq_false (fun z => c z.2), Bool.or_false]
    · have e2 : decide ((f + 1 ≤ i ∧ i < f + 1 + m) ∧ ty i ≠ 0 ∧ ty i ≠ ty2 i) = decide ((f ≤ i ∧ i < f + (m + 1)) ∧ ty i ≠ 0 ∧ ty i ≠ ty2 i) := by
        congr 1
        exact propext ⟨fun z => ⟨by omega, z.2⟩, fun z => ⟨by omega, z.2⟩⟩
      rw [e2]
      split
      · rw [b_or, bt_b1 (by omega) hi, decide_eq_false e, Bool.or_false]
      · rfl
theorem ffL_bt {R6 Rd : Nat → List Int32} {i : Nat} (hi : i < 32) (hok : ∀ k, k < 10 → okL (R6 k)) : ∀ (m k : Nat) (s : Int32), k + m ≤ 10 → (bt (ffL R6 Rd k m s) i = true ↔ bt s i = true ∨ ∃ j, (k ≤ j ∧ j < k + m) ∧ (Rd j ≠ [] ∧ R6 j = Rd j) ∧ i < 6 ∧ anyE (1000 + nI i) (R6 j) = true)
  | 0, k, s, _ => by
    rw [ffL]
    exact ⟨Or.inl, fun z => z.elim id (fun ⟨j, h, _⟩ => by omega)⟩
  | m + 1, k, s, h => by
    rw [ffL, ffL_bt hi hok m (k + 1) _ (by omega)]
    by_cases c : Rd k ≠ [] ∧ R6 k = Rd k
    · rw [if_pos c, b_or, msk_bt _ _ _ hi (hok k (by omega)), b_0, Bool.false_or, Bool.or_eq_true, Bool.and_eq_true, decide_eq_true_eq]
      constructor
      · rintro ((h1 | h1) | ⟨j, h1, h2⟩)
        · exact Or.inl h1
        · exact Or.inr ⟨k, by omega, c, h1⟩
        · exact Or.inr ⟨j, by omega, h2⟩
      · rintro (h1 | ⟨j, h1, h2⟩)
        · exact Or.inl (Or.inl h1)
        · by_cases e : j = k
          · subst e; exact Or.inl (Or.inr h2.2)
          · exact Or.inr ⟨j, by omega, h2⟩
    · rw [if_neg c]
      constructor
      · rintro (h1 | ⟨j, h1, h2⟩)
        · exact Or.inl h1
        · exact Or.inr ⟨j, by omega, h2⟩
      · rintro (h1 | ⟨j, h1, h2⟩)
        · exact Or.inl h1
        · refine Or.inr ⟨j, ?_, h2⟩
          by_cases e : j = k
          · subst e; exact absurd h2.1 c
          · omega
theorem dbU_iff {R : Nat → List Int32} {v : Nat} {drp : Int32} {f : Nat} : ∀ (m k : Nat) (b : Bool), dbU R v drp f k m b = true ↔ b = true ∨ ∃ j, (k ≤ j ∧ j < k + m) ∧ bitI drp j = true ∧ R (10 * (v + 1) + j) = R j ∧ anyE (1000 + nI f) (R (10 * (v + 1) + j)) = true
  | 0, k, b => by
    rw [dbU]
    exact ⟨Or.inl, fun z => z.elim id (fun ⟨j, h, _⟩ => by omega)⟩
  | m + 1, k, b => by
    rw [dbU, dbU_iff m (k + 1), Bool.or_eq_true, Bool.and_eq_true, Bool.and_eq_true, decide_eq_true_eq]
    constructor
    · rintro ((h1 | h1) | ⟨j, h1, h2⟩)
      · exact Or.inl h1
      · exact Or.inr ⟨k, by omega, h1⟩
      · exact Or.inr ⟨j, by omega, h2⟩
    · rintro (h1 | ⟨j, h1, h2⟩)
      · exact Or.inl (Or.inl h1)
      · by_cases e : j = k
        · subst e; exact Or.inl (Or.inr h2)
        · exact Or.inr ⟨j, by omega, h2⟩
theorem dbA_bt {ty : Nat → Int32} {R : Nat → List Int32} {v : Nat} {drp : Int32} {i : Nat} (hi : i < 32) : ∀ (m f : Nat) (s : Int32), f + m ≤ 32 → bt (dbA ty R v drp f m s) i = (bt s i || (decide (f ≤ i ∧ i < f + m) && dbU R v drp i 0 10 (dbZ ty v i)))
  | 0, f, s, _ => by rw [dbA, decide_eq_false (by omega), Bool.false_and, Bool.or_false]
  | m + 1, f, s, h => by
    rw [dbA, dbA_bt hi m (f + 1) _ (by omega), b_or]
    by_cases e : i = f
    · subst e
      rw [decide_eq_false (by omega), decide_eq_true (show i ≤ i ∧ i < i + (m + 1) by omega), Bool.false_and, Bool.or_false, Bool.true_and]
      congr 1
      split
      · rename_i h1; rw [bt_b1 hi hi, decide_eq_true rfl, h1]
      · rename_i h1; rw [b_0, Bool.eq_false_iff.mpr h1]
    · have e2 : decide (f + 1 ≤ i ∧ i < f + 1 + m) = decide (f ≤ i ∧ i < f + (m + 1)) := by
        congr 1
        exact propext ⟨fun z => by omega, fun z => by omega⟩
      rw [e2]
      congr 1
      split
      · rw [bt_b1 (by omega) hi, decide_eq_false e, Bool.or_false]
      · rw [b_0, Bool.or_false]
/-- what falls in an answer: the class's set is the reference's -/
theorem fall_eq {ty : Nat → Int32} {R R6 Rd : Nat → List Int32} {ty1 ty2 : Nat → Int32} {v : Nat} {drp db : Int32} (hR6 : ∀ k, k < 10 → R6 k = R (10 * (v + 1) + k)) (hok : ∀ k, k < 10 → okL (R6 k)) (hRd : ∀ k, k < 10 → Rd k = if bitI drp k = true then R k else []) (hdr : ∀ k, k < 10 → bitI drp k = true → R k ≠ []) (h1 : ∀ j, j < 6 → ty1 j = ty (6 * (v + 1) + j)) (h2 : ∀ j, j < 6 → ty2 j = ty j) : db ||| ffL R6 Rd 0 10 (ffT ty1 ty2 0 6 0) = dbA ty R v drp 0 6 db := by
  refine b_ext (fun i hi => ?_)
  rw [b_or, dbA_bt hi 6 0 db (by decide)]
  congr 1
  rw [Bool.eq_iff_iff, ffL_bt hi hok 10 0 _ (by decide), ffT_bt hi 6 0 0 (by decide), b_0, Bool.false_or, Bool.and_eq_true, dbU_iff, decide_eq_true_eq, decide_eq_true_eq]
  unfold dbZ
  rw [decide_eq_true_eq]
  constructor
  · rintro (⟨h3, h4⟩ | ⟨j, h3, ⟨h4, h5⟩, h6, h7⟩)
    · rw [h1 i (by omega), h2 i (by omega)] at h4
      exact ⟨h3, Or.inl h4⟩
    · have hb : bitI drp j = true := by
        by_cases c : bitI drp j = true
        · exact c
        · rw [hRd j (by omega), if_neg c] at h4; exact absurd rfl h4
      refine ⟨by omega, Or.inr ⟨j, h3, hb, ?_, ?_⟩⟩
      · rw [← hR6 j (by omega), h5, hRd j (by omega), if_pos hb]
      · rw [← hR6 j (by omega)]; exact h7
  · rintro ⟨h3, h4 | ⟨j, h4, h5, h6, h7⟩⟩
    · rw [← h1 i (by omega), ← h2 i (by omega)] at h4
      exact Or.inl ⟨h3, h4⟩
    · refine Or.inr ⟨j, h4, ⟨?_, ?_⟩, by omega, ?_⟩
      · rw [hRd j (by omega), if_pos h5]; exact hdr j (by omega) h5
      · rw [hR6 j (by omega), hRd j (by omega), if_pos h5, h6]
      · rw [hR6 j (by omega)]; exact h7
