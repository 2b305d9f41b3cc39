/-! ===== the law: its loop and its entry ===== -/
section L3
def QL : aw_R → List va_E → Prop := fun r _ => r = .inl (some (.int 1))
theorem lw_gt {L i : Nat} (hL : L ≤ 2048) (hi : i ≤ 2048) : nI L - 4 < nI i ↔ L < i + 4 := by
  have h := pk_sub_toInt (a := L) (b := 4) (by omega) (by decide)
  have e : nI L - 4 = nI L - nI 4 := rfl
  rw [e, Int32.lt_iff_toInt_lt, h, nI_toInt (by omega)]
  omega
theorem lw_out {G : aw_G} {kc ks : Nat} {w : List va_E} {loc : List (Option Value)} : AW G fL_law kc ks w 1562 loc [] QL := by
  refine r_iconst (pc := 1562) (v := 1) dL_law_1562 (by decide) ?_
  refine r_iret (pc := 1563) (ty := .boolean) rfl rfl dL_law_1563 ?_
  exact rfl
set_option maxRecDepth 100000 in
set_option maxHeartbeats 4000000 in
theorem lw_sw {G : aw_G} (hN : aw_nc G) {w : List va_E} (hX : LX w) {i kc ks : Nat} (hi : i + 4 ≤ G.2.2.2.2.2.2.2.1) (hL9 : G.2.2.2.2.2.2.2.1 ≤ 2048) {Q : aw_R → List va_E → Prop} (kk : ∀ w', LX w' → AW G fL_law kc ks w' 1556 [some (.float 0), some (.ref 0), some (.ref 12), some (.ref 30), some (.int (nI i)), none, none] [] Q) (j : Nat) (hj : j < 32) : AW G fL_law (kc + 40) (ks + 1000) w 39 [some (.float 0), some (.ref 0), some (.ref 12), some (.ref 30), some (.int (nI i)), none, none] [.int (nI j)] Q := by
  match j, hj with
  | 0, _ => exact r_tableIn (pc := 39) (off := 117) (tgt := 156) dL_law_39 (by decide) (by decide) (by decide) (by decide) (lc_0 hN hX hi hL9 kk)
  | 1, _ => exact r_tableIn (pc := 39) (off := 175) (tgt := 214) dL_law_39 (by decide) (by decide) (by decide) (by decide) (lc_1 hN hX hi hL9 kk)
  | 2, _ => exact r_tableIn (pc := 39) (off := 188) (tgt := 227) dL_law_39 (by decide) (by decide) (by decide) (by decide) (lc_2 hN hX hi hL9 kk)
  | 3, _ => exact r_tableIn (pc := 39) (off := 201) (tgt := 240) dL_law_39 (by decide) (by decide) (by decide) (by decide) (lc_3 hN hX hi hL9 kk)
  | 4, _ => exact r_tableIn (pc := 39) (off := 245) (tgt := 284) dL_law_39 (by decide) (by decide) (by decide) (by decide) (lc_4 hN hX hi hL9 kk)
  | 5, _ => exact r_tableIn (pc := 39) (off := 313) (tgt := 352) dL_law_39 (by decide) (by decide) (by decide) (by decide) (lc_5 hN hX hi hL9 kk)
  | 6, _ => exact r_tableIn (pc := 39) (off := 369) (tgt := 408) dL_law_39 (by decide) (by decide) (by decide) (by decide) (lc_6 hN hX hi hL9 kk)
  | 7, _ => exact r_tableIn (pc := 39) (off := 432) (tgt := 471) dL_law_39 (by decide) (by decide) (by decide) (by decide) (lc_7 hN hX hi hL9 kk)
  | 8, _ => exact r_tableIn (pc := 39) (off := 495) (tgt := 534) dL_law_39 (by decide) (by decide) (by decide) (by decide) (lc_8 hN hX hi hL9 kk)
  | 9, _ => exact r_tableIn (pc := 39) (off := 539) (tgt := 578) dL_law_39 (by decide) (by decide) (by decide) (by decide) (lc_9 hN hX hi hL9 kk)
  | 10, _ => exact r_tableIn (pc := 39) (off := 552) (tgt := 591) dL_law_39 (by decide) (by decide) (by decide) (by decide) (lc_10 hN hX hi hL9 kk)
  | 11, _ => exact r_tableIn (pc := 39) (off := 620) (tgt := 659) dL_law_39 (by decide) (by decide) (by decide) (by decide) (lc_11 hN hX hi hL9 kk)
  | 12, _ => exact r_tableIn (pc := 39) (off := 688) (tgt := 727) dL_law_39 (by decide) (by decide) (by decide) (by decide) (lc_12 hN hX hi hL9 kk)
  | 13, _ => exact r_tableIn (pc := 39) (off := 768) (tgt := 807) dL_law_39 (by decide) (by decide) (by decide) (by decide) (lc_13 hN hX hi hL9 kk)
  | 14, _ => exact r_tableIn (pc := 39) (off := 812) (tgt := 851) dL_law_39 (by decide) (by decide) (by decide) (by decide) (lc_14 hN hX hi hL9 kk)
  | 15, _ => exact r_tableIn (pc := 39) (off := 892) (tgt := 931) dL_law_39 (by decide) (by decide) (by decide) (by decide) (lc_15 hN hX hi hL9 kk)
  | 16, _ => exact r_tableIn (pc := 39) (off := 948) (tgt := 987) dL_law_39 (by decide) (by decide) (by decide) (by decide) (lc_16 hN hX hi hL9 kk)
  | 17, _ => exact r_tableIn (pc := 39) (off := 961) (tgt := 1000) dL_law_39 (by decide) (by decide) (by decide) (by decide) (lc_17 hN hX hi hL9 kk)
  | 18, _ => exact r_tableIn (pc := 39) (off := 1017) (tgt := 1056) dL_law_39 (by decide) (by decide) (by decide) (by decide) (lc_18 hN hX hi hL9 kk)
  | 19, _ => exact r_tableIn (pc := 39) (off := 1073) (tgt := 1112) dL_law_39 (by decide) (by decide) (by decide) (by decide) (lc_19 hN hX hi hL9 kk)
  | 20, _ => exact r_tableIn (pc := 39) (off := 1141) (tgt := 1180) dL_law_39 (by decide) (by decide) (by decide) (by decide) (lc_20 hN hX hi hL9 kk)
  | 21, _ => exact r_tableIn (pc := 39) (off := 1197) (tgt := 1236) dL_law_39 (by decide) (by decide) (by decide) (by decide) (lc_21 hN hX hi hL9 kk)
  | 22, _ => exact r_tableIn (pc := 39) (off := 1210) (tgt := 1249) dL_law_39 (by decide) (by decide) (by decide) (by decide) (lc_22 hN hX hi hL9 kk)
  | 23, _ => exact r_tableIn (pc := 39) (off := 1285) (tgt := 1324) dL_law_39 (by decide) (by decide) (by decide) (by decide) (lc_23 hN hX hi hL9 kk)
  | 24, _ => exact r_tableIn (pc := 39) (off := 1381) (tgt := 1420) dL_law_39 (by decide) (by decide) (by decide) (by decide) (lc_24 hN hX hi hL9 kk)
  | 25, _ => exact r_tableIn (pc := 39) (off := 1461) (tgt := 1500) dL_law_39 (by decide) (by decide) (by decide) (by decide) (lc_25 hN hX hi hL9 kk)
  | 26, _ => exact r_tableOut (pc := 39) (tgt := 1556) dL_law_39 (Or.inr (by decide)) (by decide) (AW_weak (by omega) (by omega) (fun _ _ z => z) (kk w hX))
  | 27, _ => exact r_tableOut (pc := 39) (tgt := 1556) dL_law_39 (Or.inr (by decide)) (by decide) (AW_weak (by omega) (by omega) (fun _ _ z => z) (kk w hX))
  | 28, _ => exact r_tableOut (pc := 39) (tgt := 1556) dL_law_39 (Or.inr (by decide)) (by decide) (AW_weak (by omega) (by omega) (fun _ _ z => z) (kk w hX))
  | 29, _ => exact r_tableOut (pc := 39) (tgt := 1556) dL_law_39 (Or.inr (by decide)) (by decide) (AW_weak (by omega) (by omega) (fun _ _ z => z) (kk w hX))
  | 30, _ => exact r_tableOut (pc := 39) (tgt := 1556) dL_law_39 (Or.inr (by decide)) (by decide) (AW_weak (by omega) (by omega) (fun _ _ z => z) (kk w hX))
  | 31, _ => exact r_tableOut (pc := 39) (tgt := 1556) dL_law_39 (Or.inr (by decide)) (by decide) (AW_weak (by omega) (by omega) (fun _ _ z => z) (kk w hX))
  | j + 32, h => exact absurd h (by omega)
set_option maxRecDepth 100000 in
set_option maxHeartbeats 4000000 in
theorem lw_loop {G : aw_G} (hN : aw_nc G) (hL9 : G.2.2.2.2.2.2.2.1 ≤ 2048) : ∀ (n i : Nat) (w : List va_E), LX w → i ≤ 2048 → G.2.2.2.2.2.2.2.1 ≤ i + 4 * n + 3 → AW G fL_law (40 * n) (1000 * n) w 23 [some (.float 0), some (.ref 0), some (.ref 12), some (.ref 30), some (.int (nI i)), none, none] [] QL := by
  intro n
  induction n with
  | zero =>
    intro i w hX hi hL
    refine r_iload (pc := 23) dL_law_23 rfl ?_
    refine r_aload_nX (pc := 25) dL_law_25 rfl rfl ?_
    refine r_slen (pc := 26) dL_law_26 ?_
    refine r_iconst (pc := 27) (v := 4) dL_law_27 (by decide) ?_
    refine r_isub (pc := 28) dL_law_28 ?_
    refine r_icmp_gt (pc := 29) (tgt := 1562) dL_law_29 (by decide) (fun _ => lw_out) (fun h => absurd ((lw_gt hL9 hi).mpr (by omega)) h)
  | succ n ih =>
    intro i w hX hi hL
    refine r_iload (pc := 23) dL_law_23 rfl ?_
    refine r_aload_nX (pc := 25) dL_law_25 rfl rfl ?_
    refine r_slen (pc := 26) dL_law_26 ?_
    refine r_iconst (pc := 27) (v := 4) dL_law_27 (by decide) ?_
    refine r_isub (pc := 28) dL_law_28 ?_
    refine r_icmp_gt (pc := 29) (tgt := 1562) dL_law_29 (by decide) (fun _ => lw_out) (fun h => ?_)
    have hi4 : i + 4 ≤ G.2.2.2.2.2.2.2.1 := Nat.le_of_not_lt (fun z => h ((lw_gt hL9 hi).mpr z))
    refine r_aload_nX (pc := 32) dL_law_32 rfl rfl ?_
    refine r_iload (pc := 33) dL_law_33 rfl ?_
    refine r_sld (pc := 35) (vp_in_nI (by omega) (by omega)) dL_law_35 ?_
    refine r_bipush (pc := 36) (v := 31) dL_law_36 (by decide) ?_
    refine r_iand (pc := 38) dL_law_38 ?_
    obtain ⟨j, hj, e⟩ := pk_andE (G.2.2.2.2.2.2.2.2 (nI i).toNatClampNeg) (m := 31) 5 (by decide)
    rw [e]
    refine lw_sw hN hX hi4 hL9 (fun w' hw' => ?_) j hj
    refine r_iinc (pc := 1556) (v := nI (i + 4)) dL_law_1556 rfl (nI_add i 4) (Nat.le_of_ble_eq_true rfl) rfl ?_
    refine r_goto (pc := 1559) (tgt := 23) dL_law_1559 (by decide) ?_
    exact ih (i + 4) w' hw' (by omega) (by omega)
def lw_ow (i : Nat) : Nat := if i < 5 then 5 else if i < 10 then 2 else if i = 10 then 3 else if i = 11 then 4 else if i < 30 then 6 else 7
def lw_P0 : List va_E := sW (c0W 0 0) (fun _ => 0) 0 0 0 0 0 (fun _ => 0) (fun _ => 0) [.inr (1, [.ref 8, .ref 6, .ref 7]), .inl (5, 10, .inr (.inr (.inr (.inr (fun _ => none))))), .inl (0, 6, .inl (fun _ => 0)), .inr (4, [.ref 9]), .inl (0, 6, .inl (fun _ => 0)), .inl (4, 10, .inr (.inr (.inr (.inr (fun _ => none))))), .inl (6, 20, .inr (.inr (.inr (.inr (fun _ => none)))))]
def lw_w0 : List va_E := mw lw_P0 (fun _ => 0) (fun _ _ => 0) [] ++ [.inl (3, 1, .inr (.inl (fun _ => 0)))]
theorem lw_LB : LB lw_ow lw_w0 (fun _ => 0) (fun _ _ => 0) (fun _ => 0) := by
  refine ⟨Nat.le_of_ble_eq_true rfl, fun i h1 h2 => ?_, rfl, fun i h1 h2 => ?_, rfl⟩
  · unfold lw_ow
    rw [if_neg (by omega), if_neg (by omega), if_neg (by omega), if_neg (by omega), if_pos (by omega)]
  · unfold lw_w0
    rw [List.getElem?_append_left (by show i < 30; omega)]
    unfold mw
    rw [List.getElem?_append_right (by show 12 ≤ i; omega), List.getElem?_append_left (by show i - 12 < 18; omega)]
    rfl
theorem lw_CP : CP lw_ow lw_w0 0 0 0 (fun _ => []) (fun _ => 0) (fun _ _ => 0) :=
  ⟨⟨fun _ => 0, 0, 0, 0, 0, fun _ => 0, fun _ => 0, ⟨⟨rfl, rfl⟩, ⟨rfl, rfl⟩, ⟨rfl, rfl⟩, ⟨rfl, rfl⟩, ⟨rfl, rfl⟩⟩, fun j h => absurd h (Nat.not_lt_zero _), fun j h => absurd h (Nat.not_lt_zero _)⟩,
   ⟨fun _ => none, ⟨rfl, rfl⟩, ⟨⟨rfl, rfl⟩, fun _ => 0, ⟨rfl, rfl⟩, fun _ _ => rfl⟩, ⟨rfl, rfl⟩, fun _ _ => rfl, fun _ => 0, ⟨rfl, rfl⟩⟩,
   ⟨fun _ => none, ⟨rfl, rfl⟩⟩, ⟨fun _ => none, ⟨rfl, rfl⟩⟩, fun v h => absurd h (Nat.not_lt_zero _), fun a h => absurd h (Nat.not_lt_zero _)⟩
theorem lw_SK : SK 0 0 0 (fun _ => []) (fun _ => 0) (fun _ _ => 0) :=
  ⟨⟨⟨Nat.zero_le _, Nat.zero_le _, Nat.zero_le _⟩, fun _ _ => Or.inl rfl, fun a h => absurd h (Nat.not_lt_zero _), fun _ _ => Or.inl rfl, fun v h => absurd h (Nat.not_lt_zero _), fun a h => absurd h (Nat.not_lt_zero _), fun a h => absurd h (Nat.not_lt_zero _), fun _ _ _ => ⟨rfl, rfl, fun _ _ => ⟨rfl, rfl⟩⟩⟩, fun a h => absurd h (Nat.not_lt_zero _)⟩
theorem lw_LX : LX lw_w0 := ⟨lw_ow, 0, 0, 0, fun _ => [], fun _ => 0, fun _ => 0, fun _ _ => 0, fun _ => 0, lw_LB, lw_CP, MI_0 _, lw_SK⟩
set_option maxRecDepth 100000 in
set_option maxHeartbeats 4000000 in
theorem lw_body {G : aw_G} (hN : aw_nc G) (hL9 : G.2.2.2.2.2.2.2.1 ≤ 2048) : AW G fL_law 601024 7293034 [] 0 [some (.float 0), none, none, none, none, none, none] [] QL := by
  refine n_X7 (pc := 0) (index := 8) (kc' := 601023) (ks' := 7293028) tw_70 (by decide) (by decide) dL_law_0 ?_
  show AW G fL_law 601023 7293028 [.inr (6, [.null, .null, .null, .int 0, .null, .int 0])] 3 _ [.ref 0] _
  refine r_dup (pc := 3) dL_law_3 rfl ?_
  refine s_L_86 (pc := 4) (kc' := 601012) (ks' := 7292804) (rest := [.ref 0]) (as := []) rfl rfl ax_init (Nat.le_of_ble_eq_true rfl) (Nat.le_of_ble_eq_true rfl) (Nat.le_of_ble_eq_true rfl) (Nat.le_of_ble_eq_true rfl) (Nat.le_of_ble_eq_true rfl) rfl (List.forall_mem_cons.mpr ⟨rfl, (fun _ h => nomatch h)⟩) rfl dL_law_4 aw_kt (aw_kv ?_)
  show AW G fL_law 601012 7292804 lw_P0 7 _ [.ref 0] _
  refine r_astore_n (pc := 7) dL_law_7 rfl (Nat.le_of_ble_eq_true rfl) rfl ?_
  refine n_X8 (pc := 8) (index := 87) (kc' := 601011) (ks' := 7292778) tw_863 (by decide) (by decide) dL_law_8 ?_
  show AW G fL_law 601011 7292778 (lw_P0 ++ [.inr (7, [.null, .int 0, .null, .null, .null, .int 0, .int 0, .null, .null, .null, .null, .null, .int 0, .null, .int 0, .null, .int 0, .null, .int 0, .null, .int 0, .null, .null, .null, .int 0, .null])]) 11 _ [.ref 12] _
  refine r_dup (pc := 11) dL_law_11 rfl ?_
  refine s_L_89 (pc := 12) (kc' := 600994) (ks' := 7287320) (rest := [.ref 12]) (as := []) rfl rfl (am_init8 rfl) (Nat.le_of_ble_eq_true rfl) (Nat.le_of_ble_eq_true rfl) (Nat.le_of_ble_eq_true rfl) (Nat.le_of_ble_eq_true rfl) (Nat.le_of_ble_eq_true rfl) rfl (List.forall_mem_cons.mpr ⟨rfl, (fun _ h => nomatch h)⟩) rfl dL_law_12 aw_kt (aw_kv ?_)
  show AW G fL_law 600994 7287320 (mw lw_P0 (fun _ => 0) (fun _ _ => 0) []) 15 _ [.ref 12] _
  refine r_astore_n (pc := 15) dL_law_15 rfl (Nat.le_of_ble_eq_true rfl) rfl ?_
  refine r_iconst (pc := 16) (v := 1) dL_law_16 (by decide) ?_
  refine r_new_long (pc := 17) (kc' := 600993) (ks' := 7287319) (N := 1) tw_1217 (by decide) (by decide) (by decide) (by decide) (by decide) dL_law_17 ?_
  show AW G fL_law 600993 7287319 lw_w0 19 _ [.ref 30] _
  refine r_astore_n (pc := 19) dL_law_19 rfl (Nat.le_of_ble_eq_true rfl) rfl ?_
  refine r_iconst (pc := 20) (v := 0) dL_law_20 (by decide) ?_
  refine r_istore (pc := 21) dL_law_21 (Nat.le_of_ble_eq_true rfl) rfl ?_
  refine AW_weak (kc' := 40 * 512) (ks' := 1000 * 512) (by decide) (by decide) (fun _ _ z => z) ?_
  exact lw_loop hN hL9 512 0 lw_w0 lw_LX (Nat.zero_le _) (by omega)
end L3
