/-! ===== the class: levels of signs; a letter, a number of the text ===== -/
section S2
def lvI (c : Int32) : Int32 := nI (rkN c) + (-1)
theorem lvI_eq {c : Int32} {lv : Nat} (h : lv < 6) : lvI c = nI lv ↔ rkN c = lv + 1 := by
  unfold lvI
  have h5 := rkN_le c
  cases hz : rkN c with
  | zero => exact ⟨fun z => absurd z.symm (nI_neg1 (by omega)), fun z => by omega⟩
  | succ n => rw [pk_m1]; rw [hz] at h5; rw [nI_eq (by omega) (by omega)]; omega
set_option maxRecDepth 100000 in
set_option maxHeartbeats 4000000 in
theorem ac_levelOf {G : aw_G} {w : List va_E} (x : Int32) : AM G fX4_levelOf [.int x] w (qx (.inl (some (.int (lvI x)))) w) := by
  refine AM_of (by decide) rfl rfl (Nat.le_of_ble_eq_true rfl) ?_
  show AW G fX4_levelOf 0 0 w 0 [some (.int x)] [] _
  refine r_iload_n (pc := 0) dX4_levelOf_0 rfl rfl ?_
  by_cases h38 : x = 38
  · subst h38
    refine r_lookup (pc := 1) (off := 77) (tgt := 78) dX4_levelOf_1 (by decide) (by decide) (by decide) ?_
    refine r_iconst (pc := 78) (v := 1) dX4_levelOf_78 (by decide) ?_
    refine r_iret (pc := 79) rfl rfl dX4_levelOf_79 ?_
    exact ⟨by decide, rfl⟩
  by_cases h42 : x = 42
  · subst h42
    refine r_lookup (pc := 1) (off := 83) (tgt := 84) dX4_levelOf_1 (by decide) (by decide) (by decide) ?_
    refine r_iconst (pc := 84) (v := 4) dX4_levelOf_84 (by decide) ?_
    refine r_iret (pc := 85) rfl rfl dX4_levelOf_85 ?_
    exact ⟨by decide, rfl⟩
  by_cases h43 : x = 43
  · subst h43
    refine r_lookup (pc := 1) (off := 81) (tgt := 82) dX4_levelOf_1 (by decide) (by decide) (by decide) ?_
    refine r_iconst (pc := 82) (v := 3) dX4_levelOf_82 (by decide) ?_
    refine r_iret (pc := 83) rfl rfl dX4_levelOf_83 ?_
    exact ⟨by decide, rfl⟩
  by_cases h45 : x = 45
  · subst h45
    refine r_lookup (pc := 1) (off := 81) (tgt := 82) dX4_levelOf_1 (by decide) (by decide) (by decide) ?_
    refine r_iconst (pc := 82) (v := 3) dX4_levelOf_82 (by decide) ?_
    refine r_iret (pc := 83) rfl rfl dX4_levelOf_83 ?_
    exact ⟨by decide, rfl⟩
  by_cases h60 : x = 60
  · subst h60
    refine r_lookup (pc := 1) (off := 79) (tgt := 80) dX4_levelOf_1 (by decide) (by decide) (by decide) ?_
    refine r_iconst (pc := 80) (v := 2) dX4_levelOf_80 (by decide) ?_
    refine r_iret (pc := 81) rfl rfl dX4_levelOf_81 ?_
    exact ⟨by decide, rfl⟩
  by_cases h61 : x = 61
  · subst h61
    refine r_lookup (pc := 1) (off := 79) (tgt := 80) dX4_levelOf_1 (by decide) (by decide) (by decide) ?_
    refine r_iconst (pc := 80) (v := 2) dX4_levelOf_80 (by decide) ?_
    refine r_iret (pc := 81) rfl rfl dX4_levelOf_81 ?_
    exact ⟨by decide, rfl⟩
  by_cases h62 : x = 62
  · subst h62
    refine r_lookup (pc := 1) (off := 79) (tgt := 80) dX4_levelOf_1 (by decide) (by decide) (by decide) ?_
    refine r_iconst (pc := 80) (v := 2) dX4_levelOf_80 (by decide) ?_
    refine r_iret (pc := 81) rfl rfl dX4_levelOf_81 ?_
    exact ⟨by decide, rfl⟩
  by_cases h124 : x = 124
  · subst h124
    refine r_lookup (pc := 1) (off := 75) (tgt := 76) dX4_levelOf_1 (by decide) (by decide) (by decide) ?_
    refine r_iconst (pc := 76) (v := 0) dX4_levelOf_76 (by decide) ?_
    refine r_iret (pc := 77) rfl rfl dX4_levelOf_77 ?_
    exact ⟨by decide, rfl⟩
  refine r_lookup (pc := 1) (off := 85) (tgt := 86) dX4_levelOf_1 (by decide) ?_ (by decide) ?_
  · show Op.lookupswitch.offset [(38, 77), (42, 83), (43, 81), (45, 81), (60, 79), (61, 79), (62, 79), (124, 75)] 85 x.toInt = 85
    rw [Op.lookupswitch.offset_cons, if_neg (fun z => h38 (Int32.toInt_inj.mp z.symm)), Op.lookupswitch.offset_cons, if_neg (fun z => h42 (Int32.toInt_inj.mp z.symm)), Op.lookupswitch.offset_cons, if_neg (fun z => h43 (Int32.toInt_inj.mp z.symm)), Op.lookupswitch.offset_cons, if_neg (fun z => h45 (Int32.toInt_inj.mp z.symm)), Op.lookupswitch.offset_cons, if_neg (fun z => h60 (Int32.toInt_inj.mp z.symm)), Op.lookupswitch.offset_cons, if_neg (fun z => h61 (Int32.toInt_inj.mp z.symm)), Op.lookupswitch.offset_cons, if_neg (fun z => h62 (Int32.toInt_inj.mp z.symm)), Op.lookupswitch.offset_cons, if_neg (fun z => h124 (Int32.toInt_inj.mp z.symm))]
    rfl
  refine r_iconst (pc := 86) (v := -1) dX4_levelOf_86 (by decide) ?_
  refine r_iret (pc := 87) rfl rfl dX4_levelOf_87 ?_
  have h0 : rkN x = 0 := by
    rcases Nat.eq_zero_or_pos (rkN x) with z | z
    · exact z
    · rcases rkN_pos z with z | z | z | z | z | z | z | z
      all_goals first | exact absurd z h38 | exact absurd z h42 | exact absurd z h43 | exact absurd z h45 | exact absurd z h60 | exact absurd z h61 | exact absurd z h62 | exact absurd z h124
  exact ⟨by rw [lvI, h0]; rfl, rfl⟩
set_option maxRecDepth 100000 in
set_option maxHeartbeats 4000000 in
theorem ac_readLetter {G : aw_G} {c0 : va_E} {tx : Nat → Int32} {tn p k l : Nat} {lt : Int32} {st pn : Nat → Int32} {tl : List va_E} (hk : k < 40) (hl : l < 80) (x : Int32) : AM G fX4_readLetter [.ref 1, .int x] (sW c0 tx tn p k l lt st pn tl) (qx (.inl none) (sW c0 tx tn (p + 1) (k + 1) (l + 1) (lt ||| 1 <<< (x - 97 &&& 31)) (upd st k (1000 + (x - 97))) (upd pn l x) tl)) := by
  refine AM_of (by decide) rfl rfl (Nat.le_of_ble_eq_true rfl) ?_
  show AW G fX4_readLetter 0 0 (sW c0 tx tn p k l lt st pn tl) 0 [some (.ref 1), some (.int x), none] [] _
  refine r_iload_n (pc := 0) dX4_readLetter_0 rfl rfl ?_
  refine r_bipush (pc := 1) (v := 97) dX4_readLetter_1 (by decide) ?_
  refine r_isub (pc := 3) dX4_readLetter_3 ?_
  refine r_istore_n (pc := 4) dX4_readLetter_4 rfl (Nat.le_of_ble_eq_true rfl) rfl ?_
  refine r_aload_n (pc := 5) dX4_readLetter_5 rfl rfl ?_
  refine r_dup (pc := 6) dX4_readLetter_6 rfl ?_
  refine sg_35 (pc := 7) rfl dX4_readLetter_7 ?_
  refine r_iconst (pc := 10) (v := 1) dX4_readLetter_10 (by decide) ?_
  refine r_iload_n (pc := 11) dX4_readLetter_11 rfl rfl ?_
  refine r_ishl (pc := 12) dX4_readLetter_12 ?_
  refine r_ior (pc := 13) dX4_readLetter_13 ?_
  refine sp_35 (pc := 14) rfl dX4_readLetter_14 ?_
  refine r_aload_n (pc := 17) dX4_readLetter_17 rfl rfl ?_
  refine r_iload_n (pc := 18) dX4_readLetter_18 rfl rfl ?_
  refine s_X4_69 (pc := 19) (kc' := 0) (ks' := 0) rfl rfl (ac_writePlain hl _) rfl (Nat.le_of_ble_eq_true rfl) (Nat.le_of_ble_eq_true rfl) (Nat.le_of_ble_eq_true rfl) (Nat.le_of_ble_eq_true rfl) (by exact (Nat.le_of_ble_eq_true rfl)) rfl (List.forall_mem_cons.mpr ⟨rfl, (List.forall_mem_cons.mpr ⟨rfl, fun _ h => nomatch h⟩)⟩) rfl dX4_readLetter_19 aw_kt (aw_kv ?_)
  refine r_aload_n (pc := 22) dX4_readLetter_22 rfl rfl ?_
  refine r_sipush (pc := 23) (v := 1000) dX4_readLetter_23 (by decide) ?_
  refine r_iload_n (pc := 26) dX4_readLetter_26 rfl rfl ?_
  refine r_iadd (pc := 27) dX4_readLetter_27 ?_
  refine s_X4_73 (pc := 28) (kc' := 0) (ks' := 0) rfl rfl (ac_addStep hk _) rfl (Nat.le_of_ble_eq_true rfl) (Nat.le_of_ble_eq_true rfl) (Nat.le_of_ble_eq_true rfl) (Nat.le_of_ble_eq_true rfl) (by exact (Nat.le_of_ble_eq_true rfl)) rfl (List.forall_mem_cons.mpr ⟨rfl, (List.forall_mem_cons.mpr ⟨rfl, fun _ h => nomatch h⟩)⟩) rfl dX4_readLetter_28 aw_kt (aw_kv ?_)
  refine r_aload_n (pc := 31) dX4_readLetter_31 rfl rfl ?_
  refine r_dup (pc := 32) dX4_readLetter_32 rfl ?_
  refine sg_19 (pc := 33) rfl dX4_readLetter_33 ?_
  refine r_iconst (pc := 36) (v := 1) dX4_readLetter_36 (by decide) ?_
  refine r_iadd (pc := 37) dX4_readLetter_37 ?_
  rw [nI_1]
  refine sp_19 (pc := 38) rfl dX4_readLetter_38 ?_
  refine r_vret (pc := 41) rfl dX4_readLetter_41 ?_
  exact ⟨rfl, rfl⟩

/-- where the reading of the text stands: place, letters, steps, plain text -/
def sR (c0 : va_E) (tx : Nat → Int32) (tn : Nat) (tl : List va_E) (r0 : aw_R) (p : Nat) (lt : Int32) (Y X : List Int32) : aw_R → List va_E → Prop := fun r w' => r = r0 ∧ ∃ st pn : Nat → Int32, w' = sW c0 tx tn p Y.length X.length lt st pn tl ∧ arow st Y ∧ arow pn X
/-- it has ended at an error -/
def sX (c0 : va_E) (tx : Nat → Int32) (tn : Nat) (tl : List va_E) (p : Nat) : aw_R → List va_E → Prop := fun r w' => r = .inl (some (.int 0)) ∧ ∃ (k l : Nat) (lt : Int32) (st pn : Nat → Int32), k ≤ 40 ∧ l ≤ 80 ∧ w' = sW c0 tx tn p k l lt st pn tl
theorem tl_cons {f : Nat → Int32} {p tn : Nat} (h : p < tn) : tlist f p (tn - p) = f p :: tlist f (p + 1) (tn - (p + 1)) := by
  rw [show tn - p = tn - (p + 1) + 1 by omega]
  rfl
theorem tl_nil {f : Nat → Int32} {p tn : Nat} (h : tn ≤ p) : tlist f p (tn - p) = [] := by rw [show tn - p = 0 by omega]; rfl
theorem hd_lt {tx : Nat → Int32} {p tn : Nat} (h : p < tn) : hd tx p tn = tx p := if_pos h
theorem hd_ge {tx : Nat → Int32} {p tn : Nat} (h : ¬ p < tn) : hd tx p tn = 0 := if_neg h
theorem cN_len : ∀ (m : Nat) (q : Int32) (cs : List Int32), (cN m q cs).2.length ≤ cs.length
  | 0, q, cs => Nat.le_refl _
  | m + 1, q, [] => Nat.le_refl _
  | m + 1, q, c :: t => by
    rw [cN]
    split
    · exact Nat.le_succ_of_le (cN_len m _ t)
    · exact Nat.le_refl _
set_option maxRecDepth 100000 in
set_option maxHeartbeats 4000000 in
theorem rn_loop {G : aw_G} {c0 : va_E} {tx : Nat → Int32} {tn : Nat} {lt : Int32} {tl : List va_E} {Y : List Int32} (htn : tn ≤ 40) (hch : chOK tx tn) (hYl : Y.length < 40) : ∀ (m Q p : Nat) (X : List Int32) (st pn : Nat → Int32), m ≤ 2 → p ≤ tn → X.length ≤ 2 * p → arow st Y → arow pn X → ((m = 2 → Q ≤ 9) ∧ (m = 1 → Q ≤ 99) ∧ Q ≤ 999) → AW G fX4_readNumber 0 0 (sW c0 tx tn p Y.length X.length lt st pn tl) 4 [some (.ref 1), some (.int (nI Q)), some (.int (nI (3 - m)))] [] (sR c0 tx tn tl (.inl none) (tn - (cN m (nI Q) (tlist tx p (tn - p))).2.length) lt (Y ++ [(cN m (nI Q) (tlist tx p (tn - p))).1]) (X ++ (tlist tx p (tn - p)).take ((tn - p) - (cN m (nI Q) (tlist tx p (tn - p))).2.length))) := by
  intro m
  induction m with
  | zero =>
    intro Q p X st pn hm hp hXl hY hX hQ
    have hp40 : p ≤ 40 := by omega
    refine r_iload_n (pc := 4) dX4_readNumber_4 rfl rfl ?_
    refine r_iconst (pc := 5) (v := 3) dX4_readNumber_5 (by decide) ?_
    refine r_icmp_ge (pc := 6) (tgt := 64) dX4_readNumber_6 (by decide) (fun h6 => ?_) (fun h => absurd (by decide) h)
    refine r_aload_n (pc := 64) dX4_readNumber_64 rfl rfl ?_
    refine r_iload_n (pc := 65) dX4_readNumber_65 rfl rfl ?_
    refine s_X4_73 (pc := 66) (kc' := 0) (ks' := 0) rfl rfl (ac_addStep (by omega) _) rfl (Nat.le_of_ble_eq_true rfl) (Nat.le_of_ble_eq_true rfl) (Nat.le_of_ble_eq_true rfl) (Nat.le_of_ble_eq_true rfl) (by exact (Nat.le_of_ble_eq_true rfl)) rfl (List.forall_mem_cons.mpr ⟨rfl, (List.forall_mem_cons.mpr ⟨rfl, fun _ h => nomatch h⟩)⟩) rfl dX4_readNumber_66 aw_kt (aw_kv ?_)
    refine r_vret (pc := 69) rfl dX4_readNumber_69 ?_
    have e : (cN 0 (nI Q) (tlist tx p (tn - p))) = (nI Q, tlist tx p (tn - p)) := rfl
    rw [e]
    have ell : (nI Q, tlist tx p (tn - p)).2.length = tn - p := tlist_len _ _ _
    rw [ell, show tn - (tn - p) = p by omega, Nat.sub_self]
    refine ⟨rfl, _, _, ?_, arow_up hY rfl, (by simpa using hX)⟩
    simp
  | succ m ih =>
    intro Q p X st pn hm hp hXl hY hX hQ
    have hp40 : p ≤ 40 := by omega
    refine r_iload_n (pc := 4) dX4_readNumber_4 rfl rfl ?_
    refine r_iconst (pc := 5) (v := 3) dX4_readNumber_5 (by decide) ?_
    refine r_icmp_ge (pc := 6) (tgt := 64) dX4_readNumber_6 (by decide) (fun h => absurd h (nI_ge9 (b := 3) (by omega) (by decide))) (fun h6 => ?_)
    refine r_aload_n (pc := 9) dX4_readNumber_9 rfl rfl ?_
    refine s_X4_57 (pc := 10) (kc' := 0) (ks' := 0) rfl rfl (ac_next hp40 htn hch) rfl (Nat.le_of_ble_eq_true rfl) (Nat.le_of_ble_eq_true rfl) (Nat.le_of_ble_eq_true rfl) (Nat.le_of_ble_eq_true rfl) (by exact (Nat.le_of_ble_eq_true rfl)) rfl (List.forall_mem_cons.mpr ⟨rfl, fun _ h => nomatch h⟩) rfl dX4_readNumber_10 aw_kt (aw_kq ?_)
    refine s_X4_76 (pc := 13) (kc' := 0) (ks' := 0) rfl rfl (ac_isDigit _)  (Nat.le_of_ble_eq_true rfl) (Nat.le_of_ble_eq_true rfl) (Nat.le_of_ble_eq_true rfl) (Nat.le_of_ble_eq_true rfl) (by exact (Nat.le_of_ble_eq_true rfl)) rfl (List.forall_mem_cons.mpr ⟨rfl, fun _ h => nomatch h⟩) rfl dX4_readNumber_13 aw_kt (aw_kq ?_)
    refine r_if_eq (pc := 16) (tgt := 64) dX4_readNumber_16 (by decide) (fun h16 => ?_) (fun h16 => ?_)
    · refine r_aload_n (pc := 64) dX4_readNumber_64 rfl rfl ?_
      refine r_iload_n (pc := 65) dX4_readNumber_65 rfl rfl ?_
      refine s_X4_73 (pc := 66) (kc' := 0) (ks' := 0) rfl rfl (ac_addStep (by omega) _) rfl (Nat.le_of_ble_eq_true rfl) (Nat.le_of_ble_eq_true rfl) (Nat.le_of_ble_eq_true rfl) (Nat.le_of_ble_eq_true rfl) (by exact (Nat.le_of_ble_eq_true rfl)) rfl (List.forall_mem_cons.mpr ⟨rfl, (List.forall_mem_cons.mpr ⟨rfl, fun _ h => nomatch h⟩)⟩) rfl dX4_readNumber_66 aw_kt (aw_kv ?_)
      refine r_vret (pc := 69) rfl dX4_readNumber_69 ?_
      have e : (cN (m + 1) (nI Q) (tlist tx p (tn - p))) = (nI Q, tlist tx p (tn - p)) := (by
        by_cases hpt : p < tn
        · rw [tl_cons hpt, cN, if_neg (fun z => by have := bi_eq.mp h16; rw [hd_lt hpt] at this; rw [this] at z; exact absurd z.1 (by decide))]
        · rw [tl_nil (by omega)]; rfl)
      rw [e]
      have ell : (nI Q, tlist tx p (tn - p)).2.length = tn - p := tlist_len _ _ _
      rw [ell, show tn - (tn - p) = p by omega, Nat.sub_self]
      refine ⟨rfl, _, _, ?_, arow_up hY rfl, (by simpa using hX)⟩
      simp
    · refine r_iload_n (pc := 19) dX4_readNumber_19 rfl rfl ?_
      refine r_if_eq (pc := 20) (tgt := 27) dX4_readNumber_20 (by decide) (fun h => absurd h (nI_ne0 (by omega) (by omega))) (fun h20 => ?_)
      refine r_iload_n (pc := 23) dX4_readNumber_23 rfl rfl ?_
      refine r_if_le (pc := 24) (tgt := 64) dX4_readNumber_24 (by decide) (fun h24 => ?_) (fun h24 => ?_)
      · refine r_aload_n (pc := 64) dX4_readNumber_64 rfl rfl ?_
        refine r_iload_n (pc := 65) dX4_readNumber_65 rfl rfl ?_
        refine s_X4_73 (pc := 66) (kc' := 0) (ks' := 0) rfl rfl (ac_addStep (by omega) _) rfl (Nat.le_of_ble_eq_true rfl) (Nat.le_of_ble_eq_true rfl) (Nat.le_of_ble_eq_true rfl) (Nat.le_of_ble_eq_true rfl) (by exact (Nat.le_of_ble_eq_true rfl)) rfl (List.forall_mem_cons.mpr ⟨rfl, (List.forall_mem_cons.mpr ⟨rfl, fun _ h => nomatch h⟩)⟩) rfl dX4_readNumber_66 aw_kt (aw_kv ?_)
        refine r_vret (pc := 69) rfl dX4_readNumber_69 ?_
        have e : (cN (m + 1) (nI Q) (tlist tx p (tn - p))) = (nI Q, tlist tx p (tn - p)) := (by
          by_cases hpt : p < tn
          · rw [tl_cons hpt, cN, if_neg (fun z => absurd z.2 (Int32.not_lt.mpr h24))]
          · rw [tl_nil (by omega)]; rfl)
        rw [e]
        have ell : (nI Q, tlist tx p (tn - p)).2.length = tn - p := tlist_len _ _ _
        rw [ell, show tn - (tn - p) = p by omega, Nat.sub_self]
        refine ⟨rfl, _, _, ?_, arow_up hY rfl, (by simpa using hX)⟩
        simp
      · have hdig : isDig (hd tx p tn) = true := bi_ne.mp h16
        have hplt : p < tn := by
          refine Classical.byContradiction (fun z => ?_)
          rw [hd_ge z] at hdig
          exact absurd hdig (by decide)
        refine r_iload_n (pc := 27) dX4_readNumber_27 rfl rfl ?_
        refine r_bipush (pc := 28) (v := 10) dX4_readNumber_28 (by decide) ?_
        refine r_imul (pc := 30) dX4_readNumber_30 ?_
        refine r_aload_n (pc := 31) dX4_readNumber_31 rfl rfl ?_
        refine s_X4_57 (pc := 32) (kc' := 0) (ks' := 0) rfl rfl (ac_next hp40 htn hch) rfl (Nat.le_of_ble_eq_true rfl) (Nat.le_of_ble_eq_true rfl) (Nat.le_of_ble_eq_true rfl) (Nat.le_of_ble_eq_true rfl) (by exact (Nat.le_of_ble_eq_true rfl)) rfl (List.forall_mem_cons.mpr ⟨rfl, fun _ h => nomatch h⟩) rfl dX4_readNumber_32 aw_kt (aw_kq ?_)
        refine r_bipush (pc := 35) (v := 48) dX4_readNumber_35 (by decide) ?_
        refine r_isub (pc := 37) dX4_readNumber_37 ?_
        refine r_iadd (pc := 38) dX4_readNumber_38 ?_
        refine r_istore_n (pc := 39) dX4_readNumber_39 rfl (Nat.le_of_ble_eq_true rfl) rfl ?_
        refine r_aload_n (pc := 40) dX4_readNumber_40 rfl rfl ?_
        refine r_aload_n (pc := 41) dX4_readNumber_41 rfl rfl ?_
        refine s_X4_57 (pc := 42) (kc' := 0) (ks' := 0) rfl rfl (ac_next hp40 htn hch) rfl (Nat.le_of_ble_eq_true rfl) (Nat.le_of_ble_eq_true rfl) (Nat.le_of_ble_eq_true rfl) (Nat.le_of_ble_eq_true rfl) (by exact (Nat.le_of_ble_eq_true rfl)) rfl (List.forall_mem_cons.mpr ⟨rfl, fun _ h => nomatch h⟩) rfl dX4_readNumber_42 aw_kt (aw_kq ?_)
        refine s_X4_69 (pc := 45) (kc' := 0) (ks' := 0) rfl rfl (ac_writePlain (by omega) _) rfl (Nat.le_of_ble_eq_true rfl) (Nat.le_of_ble_eq_true rfl) (Nat.le_of_ble_eq_true rfl) (Nat.le_of_ble_eq_true rfl) (by exact (Nat.le_of_ble_eq_true rfl)) rfl (List.forall_mem_cons.mpr ⟨rfl, (List.forall_mem_cons.mpr ⟨rfl, fun _ h => nomatch h⟩)⟩) rfl dX4_readNumber_45 aw_kt (aw_kv ?_)
        refine r_aload_n (pc := 48) dX4_readNumber_48 rfl rfl ?_
        refine r_dup (pc := 49) dX4_readNumber_49 rfl ?_
        refine sg_19 (pc := 50) rfl dX4_readNumber_50 ?_
        refine r_iconst (pc := 53) (v := 1) dX4_readNumber_53 (by decide) ?_
        refine r_iadd (pc := 54) dX4_readNumber_54 ?_
        rw [nI_1]
        refine sp_19 (pc := 55) rfl dX4_readNumber_55 ?_
        refine r_iincK (pc := 58) (k9 := 1) dX4_readNumber_58 (by decide) rfl (Nat.le_of_ble_eq_true rfl) rfl ?_
        refine r_goto (pc := 61) (tgt := 4) dX4_readNumber_61 (by decide) ?_
        have hpt : p < tn := by
          refine Classical.byContradiction (fun z => ?_)
          rw [hd_ge z] at hdig
          exact absurd hdig (by decide)
        have hd9 := hd_lt (tx := tx) hpt
        rw [hd9] at hdig ⊢
        obtain ⟨d, hd10, hdd⟩ := dig_of hdig
        have hQ0 : 0 < Q := Nat.pos_of_ne_zero (fun z => h24 (by rw [z]; decide))
        have e : nI Q * 10 + (tx p - 48) = nI (10 * Q + d) := by
          rw [hdd, show nI Q * 10 = nI (Q * 10) from pk_mul Q 10, show nI (48 + d) - 48 = nI (48 + d - 48) from pk_sub (b := 48) (by omega), nI_add]
          congr 1; omega
        have ec : cN (m + 1) (nI Q) (tlist tx p (tn - p)) = cN m (nI (10 * Q + d)) (tlist tx (p + 1) (tn - (p + 1))) := by
          rw [tl_cons hpt, cN, if_pos ⟨hdig, (nI_ltI (a := 0) (by decide) (by omega)).mpr hQ0⟩, e]
        rw [ec, e, nI_1, show 3 - (m + 1) + 1 = 3 - m by omega]
        have h9 := ih (10 * Q + d) (p + 1) (X ++ [tx p]) st (upd pn X.length (tx p)) (by omega) (by omega) (by simp; omega) hY (arow_up hX rfl) (by omega)
        rw [show (X ++ [tx p]).length = X.length + 1 by simp] at h9
        have hlen : (cN m (nI (10 * Q + d)) (tlist tx (p + 1) (tn - (p + 1)))).2.length ≤ tn - (p + 1) := by
          have := cN_len m (nI (10 * Q + d)) (tlist tx (p + 1) (tn - (p + 1)))
          rw [tlist_len] at this
          exact this
        rw [tl_cons hpt, show tn - p - (cN m (nI (10 * Q + d)) (tlist tx (p + 1) (tn - (p + 1)))).2.length = tn - (p + 1) - (cN m (nI (10 * Q + d)) (tlist tx (p + 1) (tn - (p + 1)))).2.length + 1 by omega, List.take_succ_cons]
        rw [List.append_assoc] at h9
        exact h9
set_option maxRecDepth 100000 in
set_option maxHeartbeats 4000000 in
theorem ac_readNumber {G : aw_G} {c0 : va_E} {tx : Nat → Int32} {tn p : Nat} {lt : Int32} {st pn : Nat → Int32} {tl : List va_E} {Y X : List Int32} (htn : tn ≤ 40) (hch : chOK tx tn) (hpt : p < tn) (hdig : isDig (tx p) = true) (hYl : Y.length ≤ p) (hXl : X.length ≤ 2 * p) (hY : arow st Y) (hX : arow pn X) : AM G fX4_readNumber [.ref 1] (sW c0 tx tn p Y.length X.length lt st pn tl) (sR c0 tx tn tl (.inl none) (tn - (cN 2 (tx p - 48) (tlist tx (p + 1) (tn - (p + 1)))).2.length) lt (Y ++ [(cN 2 (tx p - 48) (tlist tx (p + 1) (tn - (p + 1)))).1]) (X ++ (tlist tx p (tn - p)).take (tn - p - (cN 2 (tx p - 48) (tlist tx (p + 1) (tn - (p + 1)))).2.length))) := by
  refine AM_of (by decide) rfl rfl (Nat.le_of_ble_eq_true rfl) ?_
  show AW G fX4_readNumber 0 0 (sW c0 tx tn p Y.length X.length lt st pn tl) 0 [some (.ref 1), none, none] [] _
  have hp40 : p ≤ 40 := by omega
  refine r_iconst (pc := 0) (v := 0) dX4_readNumber_0 (by decide) ?_
  refine r_istore_n (pc := 1) dX4_readNumber_1 rfl (Nat.le_of_ble_eq_true rfl) rfl ?_
  refine r_iconst (pc := 2) (v := 0) dX4_readNumber_2 (by decide) ?_
  refine r_istore_n (pc := 3) dX4_readNumber_3 rfl (Nat.le_of_ble_eq_true rfl) rfl ?_
  refine r_iload_n (pc := 4) dX4_readNumber_4 rfl rfl ?_
  refine r_iconst (pc := 5) (v := 3) dX4_readNumber_5 (by decide) ?_
  refine r_icmp_ge (pc := 6) (tgt := 64) dX4_readNumber_6 (by decide) (fun h => absurd h (by decide)) (fun _ => ?_)
  refine r_aload_n (pc := 9) dX4_readNumber_9 rfl rfl ?_
  refine s_X4_57 (pc := 10) (kc' := 0) (ks' := 0) rfl rfl (ac_next hp40 htn hch) rfl (Nat.le_of_ble_eq_true rfl) (Nat.le_of_ble_eq_true rfl) (Nat.le_of_ble_eq_true rfl) (Nat.le_of_ble_eq_true rfl) (by exact (Nat.le_of_ble_eq_true rfl)) rfl (List.forall_mem_cons.mpr ⟨rfl, fun _ h => nomatch h⟩) rfl dX4_readNumber_10 aw_kt (aw_kq ?_)
  refine s_X4_76 (pc := 13) (kc' := 0) (ks' := 0) rfl rfl (ac_isDigit _)  (Nat.le_of_ble_eq_true rfl) (Nat.le_of_ble_eq_true rfl) (Nat.le_of_ble_eq_true rfl) (Nat.le_of_ble_eq_true rfl) (by exact (Nat.le_of_ble_eq_true rfl)) rfl (List.forall_mem_cons.mpr ⟨rfl, fun _ h => nomatch h⟩) rfl dX4_readNumber_13 aw_kt (aw_kq ?_)
  refine r_if_eq (pc := 16) (tgt := 64) dX4_readNumber_16 (by decide) (fun h => absurd (bi_eq.mp h) (by rw [hd_lt hpt, hdig]; decide)) (fun h16 => ?_)
  refine r_iload_n (pc := 19) dX4_readNumber_19 rfl rfl ?_
  refine r_if_eq (pc := 20) (tgt := 27) dX4_readNumber_20 (by decide) (fun _ => ?_) (fun h => absurd h (by decide))
  refine r_iload_n (pc := 27) dX4_readNumber_27 rfl rfl ?_
  refine r_bipush (pc := 28) (v := 10) dX4_readNumber_28 (by decide) ?_
  refine r_imul (pc := 30) dX4_readNumber_30 ?_
  refine r_aload_n (pc := 31) dX4_readNumber_31 rfl rfl ?_
  refine s_X4_57 (pc := 32) (kc' := 0) (ks' := 0) rfl rfl (ac_next hp40 htn hch) rfl (Nat.le_of_ble_eq_true rfl) (Nat.le_of_ble_eq_true rfl) (Nat.le_of_ble_eq_true rfl) (Nat.le_of_ble_eq_true rfl) (by exact (Nat.le_of_ble_eq_true rfl)) rfl (List.forall_mem_cons.mpr ⟨rfl, fun _ h => nomatch h⟩) rfl dX4_readNumber_32 aw_kt (aw_kq ?_)
  refine r_bipush (pc := 35) (v := 48) dX4_readNumber_35 (by decide) ?_
  refine r_isub (pc := 37) dX4_readNumber_37 ?_
  refine r_iadd (pc := 38) dX4_readNumber_38 ?_
  refine r_istore_n (pc := 39) dX4_readNumber_39 rfl (Nat.le_of_ble_eq_true rfl) rfl ?_
  refine r_aload_n (pc := 40) dX4_readNumber_40 rfl rfl ?_
  refine r_aload_n (pc := 41) dX4_readNumber_41 rfl rfl ?_
  refine s_X4_57 (pc := 42) (kc' := 0) (ks' := 0) rfl rfl (ac_next hp40 htn hch) rfl (Nat.le_of_ble_eq_true rfl) (Nat.le_of_ble_eq_true rfl) (Nat.le_of_ble_eq_true rfl) (Nat.le_of_ble_eq_true rfl) (by exact (Nat.le_of_ble_eq_true rfl)) rfl (List.forall_mem_cons.mpr ⟨rfl, fun _ h => nomatch h⟩) rfl dX4_readNumber_42 aw_kt (aw_kq ?_)
  refine s_X4_69 (pc := 45) (kc' := 0) (ks' := 0) rfl rfl (ac_writePlain (by omega) _) rfl (Nat.le_of_ble_eq_true rfl) (Nat.le_of_ble_eq_true rfl) (Nat.le_of_ble_eq_true rfl) (Nat.le_of_ble_eq_true rfl) (by exact (Nat.le_of_ble_eq_true rfl)) rfl (List.forall_mem_cons.mpr ⟨rfl, (List.forall_mem_cons.mpr ⟨rfl, fun _ h => nomatch h⟩)⟩) rfl dX4_readNumber_45 aw_kt (aw_kv ?_)
  refine r_aload_n (pc := 48) dX4_readNumber_48 rfl rfl ?_
  refine r_dup (pc := 49) dX4_readNumber_49 rfl ?_
  refine sg_19 (pc := 50) rfl dX4_readNumber_50 ?_
  refine r_iconst (pc := 53) (v := 1) dX4_readNumber_53 (by decide) ?_
  refine r_iadd (pc := 54) dX4_readNumber_54 ?_
  rw [nI_1]
  refine sp_19 (pc := 55) rfl dX4_readNumber_55 ?_
  refine r_iincK (pc := 58) (k9 := 1) dX4_readNumber_58 (by decide) rfl (Nat.le_of_ble_eq_true rfl) rfl ?_
  refine r_goto (pc := 61) (tgt := 4) dX4_readNumber_61 (by decide) ?_
  obtain ⟨d, hd10, hdd⟩ := dig_of hdig
  have e : (0 : Int32) * 10 + (hd tx p tn - 48) = nI d := by
    rw [hd_lt hpt, hdd, show nI (48 + d) - 48 = nI (48 + d - 48) from pk_sub (b := 48) (by omega), show 48 + d - 48 = d by omega]
    rw [show (0 : Int32) * 10 = 0 by decide, Int32.zero_add]
  have e2 : tx p - 48 = nI d := by rw [hdd, show nI (48 + d) - 48 = nI (48 + d - 48) from pk_sub (b := 48) (by omega), show 48 + d - 48 = d by omega]
  rw [e, e2, hd_lt hpt]
  have h9 := rn_loop (G := G) (c0 := c0) (lt := lt) (tl := tl) (Y := Y) htn hch (by omega) 2 d (p + 1) (X ++ [tx p]) st (upd pn X.length (tx p)) (by omega) (by omega) (by simp; omega) hY (arow_up hX rfl) ⟨fun _ => hd10, fun z => (by cases z), by omega⟩
  rw [show (X ++ [tx p]).length = X.length + 1 by simp] at h9
  have hlen : (cN 2 (nI d) (tlist tx (p + 1) (tn - (p + 1)))).2.length ≤ tn - (p + 1) := by
    have := cN_len 2 (nI d) (tlist tx (p + 1) (tn - (p + 1)))
    rw [tlist_len] at this
    exact this
  rw [tl_cons hpt, show tn - p - (cN 2 (nI d) (tlist tx (p + 1) (tn - (p + 1)))).2.length = tn - (p + 1) - (cN 2 (nI d) (tlist tx (p + 1) (tn - (p + 1)))).2.length + 1 by omega, List.take_succ_cons]
  rw [List.append_assoc] at h9
  exact h9

end S2
