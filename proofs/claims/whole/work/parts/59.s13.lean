/-! ===== the class: constructors ===== -/
section S13
set_option maxRecDepth 100000 in
set_option maxHeartbeats 4000000 in
theorem ac_init3 {G : aw_G} {w : List va_E} {a : Nat} : AM G fX3_init [.ref a] w (qx (.inl none) w) := by
  refine AM_of (by decide) rfl rfl (Nat.le_of_ble_eq_true rfl) ?_
  show AW G fX3_init 0 0 w 0 [some (.ref a)] [] _
  refine r_aload_n (pc := 0) dX3_init_0 rfl rfl ?_
  refine s_X3_1 (pc := 1) rfl (Nat.le_of_ble_eq_true rfl) (Nat.le_of_ble_eq_true rfl) dX3_init_1 ?_
  refine r_vret (pc := 4) rfl dX3_init_4 ?_
  exact ⟨rfl, rfl⟩
set_option maxRecDepth 100000 in
set_option maxHeartbeats 4000000 in
theorem ac5_init {G : aw_G} {w w' : List va_E} {a b : Nat} (hw : w[a]? = some (.inr (4, [.null]))) (hw' : w.set a (.inr (4, [.ref b])) = w') : AM G fX5_init [.ref a, .ref b] w (qx (.inl none) w') := by
  refine AM_of (by decide) rfl rfl (Nat.le_of_ble_eq_true rfl) ?_
  show AW G fX5_init 0 0 w 0 [some (.ref a), some (.ref b)] [] _
  refine r_aload_n (pc := 0) dX5_init_0 rfl rfl ?_
  refine s_X5_3 (pc := 1) (kc' := 0) (ks' := 0) rfl rfl ac_init3 (Nat.le_of_ble_eq_true rfl) (Nat.le_of_ble_eq_true rfl) (Nat.le_of_ble_eq_true rfl) (Nat.le_of_ble_eq_true rfl) (by exact (Nat.le_of_ble_eq_true rfl)) rfl (List.forall_mem_cons.mpr ⟨rfl, fun _ h => nomatch h⟩) rfl dX5_init_1 aw_kt (aw_kv ?_)
  refine r_aload_n (pc := 4) dX5_init_4 rfl rfl ?_
  refine r_aload_n (pc := 5) dX5_init_5 rfl rfl ?_
  refine p_X5_9 (pc := 6) (w' := w') rfl rfl hw (Nat.le_of_ble_eq_true rfl) dX5_init_6 hw' ?_
  refine r_vret (pc := 9) rfl dX5_init_9 ?_
  exact ⟨rfl, rfl⟩
set_option maxRecDepth 100000 in
set_option maxHeartbeats 4000000 in
theorem ac_init4 {G : aw_G} {c0 : va_E} : AM G fX4_init [.ref 1] [c0, .inr (3, [.null, .int 0, .int 0, .null, .int 0, .null, .int 0, .int 0])] (qx (.inl none) (sW c0 (fun _ => 0) 0 0 0 0 0 (fun _ => 0) (fun _ => 0) [])) := by
  refine AM_of (by decide) rfl rfl (Nat.le_of_ble_eq_true rfl) ?_
  show AW G fX4_init 3 160 [c0, .inr (3, [.null, .int 0, .int 0, .null, .int 0, .null, .int 0, .int 0])] 0 [some (.ref 1)] [] _
  refine r_aload_n (pc := 0) dX4_init_0 rfl rfl ?_
  refine s_X4_3 (pc := 1) rfl (Nat.le_of_ble_eq_true rfl) (Nat.le_of_ble_eq_true rfl) dX4_init_1 ?_
  refine r_aload_n (pc := 4) dX4_init_4 rfl rfl ?_
  refine r_bipush (pc := 5) (v := 40) dX4_init_5 (by decide) ?_
  refine r_new_char (pc := 7) (kc' := 2) (ks' := 120) (N := 40) tw_109 (by decide) (by decide) (by decide) (Nat.le_of_ble_eq_true rfl) (Nat.le_of_ble_eq_true rfl) dX4_init_7 ?_
  show AW G fX4_init 2 120 [c0, .inr (3, [.null, .int 0, .int 0, .null, .int 0, .null, .int 0, .int 0]), .inl (2, 40, .inl (fun _ => 0))] 9 [some (.ref 1)] [.ref 2, .ref 1] _
  refine p_X4_9 (pc := 9) (w' := [c0, .inr (3, [.ref 2, .int 0, .int 0, .null, .int 0, .null, .int 0, .int 0]), .inl (2, 40, .inl (fun _ => 0))]) rfl rfl rfl (Nat.le_of_ble_eq_true rfl) dX4_init_9 rfl ?_
  refine r_aload_n (pc := 12) dX4_init_12 rfl rfl ?_
  refine r_iconst (pc := 13) (v := 0) dX4_init_13 (by decide) ?_
  refine p_X4_15 (pc := 14) (w' := [c0, .inr (3, [.ref 2, .int 0, .int 0, .null, .int 0, .null, .int 0, .int 0]), .inl (2, 40, .inl (fun _ => 0))]) rfl rfl (Nat.le_of_ble_eq_true rfl) dX4_init_14 rfl ?_
  refine r_aload_n (pc := 17) dX4_init_17 rfl rfl ?_
  refine r_iconst (pc := 18) (v := 0) dX4_init_18 (by decide) ?_
  refine p_X4_19 (pc := 19) (w' := [c0, .inr (3, [.ref 2, .int 0, .int 0, .null, .int 0, .null, .int 0, .int 0]), .inl (2, 40, .inl (fun _ => 0))]) rfl rfl (Nat.le_of_ble_eq_true rfl) dX4_init_19 rfl ?_
  refine r_aload_n (pc := 22) dX4_init_22 rfl rfl ?_
  refine r_bipush (pc := 23) (v := 40) dX4_init_23 (by decide) ?_
  refine r_new_int (pc := 25) (kc' := 1) (ks' := 80) (N := 40) tw_110 (by decide) (by decide) (by decide) (Nat.le_of_ble_eq_true rfl) (Nat.le_of_ble_eq_true rfl) dX4_init_25 ?_
  show AW G fX4_init 1 80 [c0, .inr (3, [.ref 2, .int 0, .int 0, .null, .int 0, .null, .int 0, .int 0]), .inl (2, 40, .inl (fun _ => 0)), .inl (0, 40, .inl (fun _ => 0))] 27 [some (.ref 1)] [.ref 3, .ref 1] _
  refine p_X4_22 (pc := 27) (w' := [c0, .inr (3, [.ref 2, .int 0, .int 0, .ref 3, .int 0, .null, .int 0, .int 0]), .inl (2, 40, .inl (fun _ => 0)), .inl (0, 40, .inl (fun _ => 0))]) rfl rfl rfl (Nat.le_of_ble_eq_true rfl) dX4_init_27 rfl ?_
  refine r_aload_n (pc := 30) dX4_init_30 rfl rfl ?_
  refine r_iconst (pc := 31) (v := 0) dX4_init_31 (by decide) ?_
  refine p_X4_26 (pc := 32) (w' := [c0, .inr (3, [.ref 2, .int 0, .int 0, .ref 3, .int 0, .null, .int 0, .int 0]), .inl (2, 40, .inl (fun _ => 0)), .inl (0, 40, .inl (fun _ => 0))]) rfl rfl (Nat.le_of_ble_eq_true rfl) dX4_init_32 rfl ?_
  refine r_aload_n (pc := 35) dX4_init_35 rfl rfl ?_
  refine r_bipush (pc := 36) (v := 80) dX4_init_36 (by decide) ?_
  refine r_new_int (pc := 38) (kc' := 0) (ks' := 0) (N := 80) tw_110 (by decide) (by decide) (by decide) (Nat.le_of_ble_eq_true rfl) (Nat.le_of_ble_eq_true rfl) dX4_init_38 ?_
  show AW G fX4_init 0 0 [c0, .inr (3, [.ref 2, .int 0, .int 0, .ref 3, .int 0, .null, .int 0, .int 0]), .inl (2, 40, .inl (fun _ => 0)), .inl (0, 40, .inl (fun _ => 0)), .inl (0, 80, .inl (fun _ => 0))] 40 [some (.ref 1)] [.ref 4, .ref 1] _
  refine p_X4_29 (pc := 40) (w' := [c0, .inr (3, [.ref 2, .int 0, .int 0, .ref 3, .int 0, .ref 4, .int 0, .int 0]), .inl (2, 40, .inl (fun _ => 0)), .inl (0, 40, .inl (fun _ => 0)), .inl (0, 80, .inl (fun _ => 0))]) rfl rfl rfl (Nat.le_of_ble_eq_true rfl) dX4_init_40 rfl ?_
  refine r_aload_n (pc := 43) dX4_init_43 rfl rfl ?_
  refine r_iconst (pc := 44) (v := 0) dX4_init_44 (by decide) ?_
  refine p_X4_32 (pc := 45) (w' := [c0, .inr (3, [.ref 2, .int 0, .int 0, .ref 3, .int 0, .ref 4, .int 0, .int 0]), .inl (2, 40, .inl (fun _ => 0)), .inl (0, 40, .inl (fun _ => 0)), .inl (0, 80, .inl (fun _ => 0))]) rfl rfl (Nat.le_of_ble_eq_true rfl) dX4_init_45 rfl ?_
  refine r_aload_n (pc := 48) dX4_init_48 rfl rfl ?_
  refine r_iconst (pc := 49) (v := 0) dX4_init_49 (by decide) ?_
  refine p_X4_35 (pc := 50) (w' := [c0, .inr (3, [.ref 2, .int 0, .int 0, .ref 3, .int 0, .ref 4, .int 0, .int 0]), .inl (2, 40, .inl (fun _ => 0)), .inl (0, 40, .inl (fun _ => 0)), .inl (0, 80, .inl (fun _ => 0))]) rfl rfl (Nat.le_of_ble_eq_true rfl) dX4_init_50 rfl ?_
  refine r_vret (pc := 53) rfl dX4_init_53 ?_
  exact ⟨rfl, rfl⟩
set_option maxRecDepth 100000 in
set_option maxHeartbeats 4000000 in
theorem ac_init1 {G : aw_G} {c0 : va_E} : AM G fX1_init [.ref 5] (sW c0 (fun _ => 0) 0 0 0 0 0 (fun _ => 0) (fun _ => 0) [.inr (1, [.null, .null, .null])]) (qx (.inl none) (sW c0 (fun _ => 0) 0 0 0 0 0 (fun _ => 0) (fun _ => 0) [.inr (1, [.ref 8, .ref 6, .ref 7]), .inl (5, 10, .inr (.inr (.inr (.inr (fun _ => none))))), .inl (0, 6, .inl (fun _ => 0)), .inr (4, [.ref 9]), .inl (0, 6, .inl (fun _ => 0))])) := by
  refine AM_of (by decide) rfl rfl (Nat.le_of_ble_eq_true rfl) ?_
  show AW G fX1_init 4 23 (sW c0 (fun _ => 0) 0 0 0 0 0 (fun _ => 0) (fun _ => 0) [.inr (1, [.null, .null, .null])]) 0 [some (.ref 5)] [] _
  refine r_aload_n (pc := 0) dX1_init_0 rfl rfl ?_
  refine s_X1_3 (pc := 1) rfl (Nat.le_of_ble_eq_true rfl) (Nat.le_of_ble_eq_true rfl) dX1_init_1 ?_
  refine r_aload_n (pc := 4) dX1_init_4 rfl rfl ?_
  refine r_bipush (pc := 5) (v := 10) dX1_init_5 (by decide) ?_
  refine r_newq (pc := 7) (t := 5) (index := 9) (kc' := 3) (ks' := 13) (N := 10) (fun _ => rfl) tw_117 tw_118 (by decide) (by decide) (by decide) (Nat.le_of_ble_eq_true rfl) (Nat.le_of_ble_eq_true rfl) dX1_init_7 ?_
  show AW G fX1_init 3 13 (sW c0 (fun _ => 0) 0 0 0 0 0 (fun _ => 0) (fun _ => 0) [.inr (1, [.null, .null, .null]), .inl (5, 10, .inr (.inr (.inr (.inr (fun _ => none)))))]) 10 [some (.ref 5)] [.ref 6, .ref 5] _
  refine p_X1_11 (pc := 10) (w' := (sW c0 (fun _ => 0) 0 0 0 0 0 (fun _ => 0) (fun _ => 0) [.inr (1, [.null, .ref 6, .null]), .inl (5, 10, .inr (.inr (.inr (.inr (fun _ => none)))))])) rfl rfl rfl (Nat.le_of_ble_eq_true rfl) dX1_init_10 rfl ?_
  refine r_aload_n (pc := 13) dX1_init_13 rfl rfl ?_
  refine r_bipush (pc := 14) (v := 6) dX1_init_14 (by decide) ?_
  refine r_new_int (pc := 16) (kc' := 2) (ks' := 7) (N := 6) tw_110 (by decide) (by decide) (by decide) (Nat.le_of_ble_eq_true rfl) (Nat.le_of_ble_eq_true rfl) dX1_init_16 ?_
  show AW G fX1_init 2 7 (sW c0 (fun _ => 0) 0 0 0 0 0 (fun _ => 0) (fun _ => 0) [.inr (1, [.null, .ref 6, .null]), .inl (5, 10, .inr (.inr (.inr (.inr (fun _ => none))))), .inl (0, 6, .inl (fun _ => 0))]) 18 [some (.ref 5)] [.ref 7, .ref 5] _
  refine p_X1_17 (pc := 18) (w' := (sW c0 (fun _ => 0) 0 0 0 0 0 (fun _ => 0) (fun _ => 0) [.inr (1, [.null, .ref 6, .ref 7]), .inl (5, 10, .inr (.inr (.inr (.inr (fun _ => none))))), .inl (0, 6, .inl (fun _ => 0))])) rfl rfl rfl (Nat.le_of_ble_eq_true rfl) dX1_init_18 rfl ?_
  refine r_aload_n (pc := 21) dX1_init_21 rfl rfl ?_
  refine n_X5 (pc := 22) (index := 21) (kc' := 1) (ks' := 6) tw_119 (Nat.le_of_ble_eq_true rfl) (Nat.le_of_ble_eq_true rfl) dX1_init_22 ?_
  show AW G fX1_init 1 6 (sW c0 (fun _ => 0) 0 0 0 0 0 (fun _ => 0) (fun _ => 0) [.inr (1, [.null, .ref 6, .ref 7]), .inl (5, 10, .inr (.inr (.inr (.inr (fun _ => none))))), .inl (0, 6, .inl (fun _ => 0)), .inr (4, [.null])]) 25 [some (.ref 5)] [.ref 8, .ref 5] _
  refine r_dup (pc := 25) dX1_init_25 rfl ?_
  refine r_bipush (pc := 26) (v := 6) dX1_init_26 (by decide) ?_
  refine r_new_int (pc := 28) (kc' := 0) (ks' := 0) (N := 6) tw_110 (by decide) (by decide) (by decide) (Nat.le_of_ble_eq_true rfl) (Nat.le_of_ble_eq_true rfl) dX1_init_28 ?_
  show AW G fX1_init 0 0 (sW c0 (fun _ => 0) 0 0 0 0 0 (fun _ => 0) (fun _ => 0) [.inr (1, [.null, .ref 6, .ref 7]), .inl (5, 10, .inr (.inr (.inr (.inr (fun _ => none))))), .inl (0, 6, .inl (fun _ => 0)), .inr (4, [.null]), .inl (0, 6, .inl (fun _ => 0))]) 30 [some (.ref 5)] [.ref 9, .ref 8, .ref 8, .ref 5] _
  refine s_X1_23 (pc := 30) (kc' := 0) (ks' := 0) (rest := [.ref 8, .ref 5]) rfl rfl (ac5_init (w' := (sW c0 (fun _ => 0) 0 0 0 0 0 (fun _ => 0) (fun _ => 0) [.inr (1, [.null, .ref 6, .ref 7]), .inl (5, 10, .inr (.inr (.inr (.inr (fun _ => none))))), .inl (0, 6, .inl (fun _ => 0)), .inr (4, [.ref 9]), .inl (0, 6, .inl (fun _ => 0))])) rfl rfl) (Nat.le_of_ble_eq_true rfl) (Nat.le_of_ble_eq_true rfl) (Nat.le_of_ble_eq_true rfl) (Nat.le_of_ble_eq_true rfl) (by exact (Nat.le_of_ble_eq_true rfl)) rfl (List.forall_mem_cons.mpr ⟨rfl, (List.forall_mem_cons.mpr ⟨rfl, fun _ h => nomatch h⟩)⟩) rfl dX1_init_30 aw_kt (aw_kv ?_)
  refine p_X1_26 (pc := 33) (w' := (sW c0 (fun _ => 0) 0 0 0 0 0 (fun _ => 0) (fun _ => 0) [.inr (1, [.ref 8, .ref 6, .ref 7]), .inl (5, 10, .inr (.inr (.inr (.inr (fun _ => none))))), .inl (0, 6, .inl (fun _ => 0)), .inr (4, [.ref 9]), .inl (0, 6, .inl (fun _ => 0))])) rfl rfl rfl (Nat.le_of_ble_eq_true rfl) dX1_init_33 rfl ?_
  refine r_vret (pc := 36) rfl dX1_init_36 ?_
  exact ⟨rfl, rfl⟩
set_option maxRecDepth 100000 in
set_option maxHeartbeats 4000000 in
theorem ax_init {G : aw_G} : AM G fX7_init [.ref 0] [(.inr (6, [.null, .null, .null, .int 0, .null, .int 0]))] (qx (.inl none) (sW (c0W 0 0) (fun _ => 0) 0 0 0 0 0 (fun _ => 0) (fun _ => 0) [.inr (1, [.ref 8, .ref 6, .ref 7]), .inl (5, 10, .inr (.inr (.inr (.inr (fun _ => none))))), .inl (0, 6, .inl (fun _ => 0)), .inr (4, [.ref 9]), .inl (0, 6, .inl (fun _ => 0)), .inl (4, 10, .inr (.inr (.inr (.inr (fun _ => none))))), .inl (6, 20, .inr (.inr (.inr (.inr (fun _ => none)))))])) := by
  refine AM_of (by decide) rfl rfl (Nat.le_of_ble_eq_true rfl) ?_
  show AW G fX7_init 11 224 [(.inr (6, [.null, .null, .null, .int 0, .null, .int 0]))] 0 [some (.ref 0)] [] _
  refine r_aload_n (pc := 0) dX7_init_0 rfl rfl ?_
  refine s_X7_1 (pc := 1) rfl (Nat.le_of_ble_eq_true rfl) (Nat.le_of_ble_eq_true rfl) dX7_init_1 ?_
  refine r_aload_n (pc := 4) dX7_init_4 rfl rfl ?_
  refine n_X4 (pc := 5) (index := 7) (kc' := 10) (ks' := 216) tw_78 (Nat.le_of_ble_eq_true rfl) (Nat.le_of_ble_eq_true rfl) dX7_init_5 ?_
  show AW G fX7_init 10 216 [(.inr (6, [.null, .null, .null, .int 0, .null, .int 0])), .inr (3, [.null, .int 0, .int 0, .null, .int 0, .null, .int 0, .int 0])] 8 [some (.ref 0)] [.ref 1, .ref 0] _
  refine r_dup (pc := 8) dX7_init_8 rfl ?_
  refine s_X7_9 (pc := 9) (kc' := 7) (ks' := 56) (rest := [.ref 1, .ref 0]) rfl rfl ac_init4 (Nat.le_of_ble_eq_true rfl) (Nat.le_of_ble_eq_true rfl) (Nat.le_of_ble_eq_true rfl) (Nat.le_of_ble_eq_true rfl) (by exact (Nat.le_of_ble_eq_true rfl)) rfl (List.forall_mem_cons.mpr ⟨rfl, fun _ h => nomatch h⟩) rfl dX7_init_9 aw_kt (aw_kv ?_)
  refine p_X7_10 (pc := 12) (w' := (sW (.inr (6, [.ref 1, .null, .null, .int 0, .null, .int 0])) (fun _ => 0) 0 0 0 0 0 (fun _ => 0) (fun _ => 0) [])) rfl rfl rfl (Nat.le_of_ble_eq_true rfl) dX7_init_12 rfl ?_
  refine r_aload_n (pc := 15) dX7_init_15 rfl rfl ?_
  refine n_X1 (pc := 16) (index := 16) (kc' := 6) (ks' := 53) tw_111 (Nat.le_of_ble_eq_true rfl) (Nat.le_of_ble_eq_true rfl) dX7_init_16 ?_
  show AW G fX7_init 6 53 (sW (.inr (6, [.ref 1, .null, .null, .int 0, .null, .int 0])) (fun _ => 0) 0 0 0 0 0 (fun _ => 0) (fun _ => 0) [.inr (1, [.null, .null, .null])]) 19 [some (.ref 0)] [.ref 5, .ref 0] _
  refine r_dup (pc := 19) dX7_init_19 rfl ?_
  refine s_X7_18 (pc := 20) (kc' := 2) (ks' := 30) (rest := [.ref 5, .ref 0]) rfl rfl ac_init1 (Nat.le_of_ble_eq_true rfl) (Nat.le_of_ble_eq_true rfl) (Nat.le_of_ble_eq_true rfl) (Nat.le_of_ble_eq_true rfl) (by exact (Nat.le_of_ble_eq_true rfl)) rfl (List.forall_mem_cons.mpr ⟨rfl, fun _ h => nomatch h⟩) rfl dX7_init_20 aw_kt (aw_kv ?_)
  refine p_X7_19 (pc := 23) (w' := (sW (.inr (6, [.ref 1, .ref 5, .null, .int 0, .null, .int 0])) (fun _ => 0) 0 0 0 0 0 (fun _ => 0) (fun _ => 0) [.inr (1, [.ref 8, .ref 6, .ref 7]), .inl (5, 10, .inr (.inr (.inr (.inr (fun _ => none))))), .inl (0, 6, .inl (fun _ => 0)), .inr (4, [.ref 9]), .inl (0, 6, .inl (fun _ => 0))])) rfl rfl rfl (Nat.le_of_ble_eq_true rfl) dX7_init_23 rfl ?_
  refine r_aload_n (pc := 26) dX7_init_26 rfl rfl ?_
  refine r_bipush (pc := 27) (v := 10) dX7_init_27 (by decide) ?_
  refine r_newq (pc := 29) (t := 4) (index := 16) (kc' := 1) (ks' := 20) (N := 10) (fun _ => rfl) tw_111 tw_142 (by decide) (by decide) (by decide) (Nat.le_of_ble_eq_true rfl) (Nat.le_of_ble_eq_true rfl) dX7_init_29 ?_
  show AW G fX7_init 1 20 (sW (.inr (6, [.ref 1, .ref 5, .null, .int 0, .null, .int 0])) (fun _ => 0) 0 0 0 0 0 (fun _ => 0) (fun _ => 0) [.inr (1, [.ref 8, .ref 6, .ref 7]), .inl (5, 10, .inr (.inr (.inr (.inr (fun _ => none))))), .inl (0, 6, .inl (fun _ => 0)), .inr (4, [.ref 9]), .inl (0, 6, .inl (fun _ => 0)), .inl (4, 10, .inr (.inr (.inr (.inr (fun _ => none)))))]) 32 [some (.ref 0)] [.ref 10, .ref 0] _
  refine p_X7_23 (pc := 32) (w' := (sW (.inr (6, [.ref 1, .ref 5, .ref 10, .int 0, .null, .int 0])) (fun _ => 0) 0 0 0 0 0 (fun _ => 0) (fun _ => 0) [.inr (1, [.ref 8, .ref 6, .ref 7]), .inl (5, 10, .inr (.inr (.inr (.inr (fun _ => none))))), .inl (0, 6, .inl (fun _ => 0)), .inr (4, [.ref 9]), .inl (0, 6, .inl (fun _ => 0)), .inl (4, 10, .inr (.inr (.inr (.inr (fun _ => none)))))])) rfl rfl rfl (Nat.le_of_ble_eq_true rfl) dX7_init_32 rfl ?_
  refine r_aload_n (pc := 35) dX7_init_35 rfl rfl ?_
  refine r_iconst (pc := 36) (v := 0) dX7_init_36 (by decide) ?_
  refine p_X7_27 (pc := 37) (w' := (sW (.inr (6, [.ref 1, .ref 5, .ref 10, .int 0, .null, .int 0])) (fun _ => 0) 0 0 0 0 0 (fun _ => 0) (fun _ => 0) [.inr (1, [.ref 8, .ref 6, .ref 7]), .inl (5, 10, .inr (.inr (.inr (.inr (fun _ => none))))), .inl (0, 6, .inl (fun _ => 0)), .inr (4, [.ref 9]), .inl (0, 6, .inl (fun _ => 0)), .inl (4, 10, .inr (.inr (.inr (.inr (fun _ => none)))))])) rfl rfl (Nat.le_of_ble_eq_true rfl) dX7_init_37 rfl ?_
  refine r_aload_n (pc := 40) dX7_init_40 rfl rfl ?_
  refine r_bipush (pc := 41) (v := 20) dX7_init_41 (by decide) ?_
  refine r_newq (pc := 43) (t := 6) (index := 31) (kc' := 0) (ks' := 0) (N := 20) (fun _ => rfl) tw_143 tw_144 (by decide) (by decide) (by decide) (Nat.le_of_ble_eq_true rfl) (Nat.le_of_ble_eq_true rfl) dX7_init_43 ?_
  show AW G fX7_init 0 0 (sW (.inr (6, [.ref 1, .ref 5, .ref 10, .int 0, .null, .int 0])) (fun _ => 0) 0 0 0 0 0 (fun _ => 0) (fun _ => 0) [.inr (1, [.ref 8, .ref 6, .ref 7]), .inl (5, 10, .inr (.inr (.inr (.inr (fun _ => none))))), .inl (0, 6, .inl (fun _ => 0)), .inr (4, [.ref 9]), .inl (0, 6, .inl (fun _ => 0)), .inl (4, 10, .inr (.inr (.inr (.inr (fun _ => none))))), .inl (6, 20, .inr (.inr (.inr (.inr (fun _ => none)))))]) 46 [some (.ref 0)] [.ref 11, .ref 0] _
  refine p_X7_33 (pc := 46) (w' := (sW (.inr (6, [.ref 1, .ref 5, .ref 10, .int 0, .ref 11, .int 0])) (fun _ => 0) 0 0 0 0 0 (fun _ => 0) (fun _ => 0) [.inr (1, [.ref 8, .ref 6, .ref 7]), .inl (5, 10, .inr (.inr (.inr (.inr (fun _ => none))))), .inl (0, 6, .inl (fun _ => 0)), .inr (4, [.ref 9]), .inl (0, 6, .inl (fun _ => 0)), .inl (4, 10, .inr (.inr (.inr (.inr (fun _ => none))))), .inl (6, 20, .inr (.inr (.inr (.inr (fun _ => none)))))])) rfl rfl rfl (Nat.le_of_ble_eq_true rfl) dX7_init_46 rfl ?_
  refine r_aload_n (pc := 49) dX7_init_49 rfl rfl ?_
  refine r_iconst (pc := 50) (v := 0) dX7_init_50 (by decide) ?_
  refine p_X7_37 (pc := 51) (w' := (sW (.inr (6, [.ref 1, .ref 5, .ref 10, .int 0, .ref 11, .int 0])) (fun _ => 0) 0 0 0 0 0 (fun _ => 0) (fun _ => 0) [.inr (1, [.ref 8, .ref 6, .ref 7]), .inl (5, 10, .inr (.inr (.inr (.inr (fun _ => none))))), .inl (0, 6, .inl (fun _ => 0)), .inr (4, [.ref 9]), .inl (0, 6, .inl (fun _ => 0)), .inl (4, 10, .inr (.inr (.inr (.inr (fun _ => none))))), .inl (6, 20, .inr (.inr (.inr (.inr (fun _ => none)))))])) rfl rfl (Nat.le_of_ble_eq_true rfl) dX7_init_51 rfl ?_
  refine r_vret (pc := 54) rfl dX7_init_54 ?_
  exact ⟨rfl, rfl⟩
end S13
