/-! ===== the class: the constructor of a frozen Form ===== -/
set_option maxRecDepth 100000 in
set_option maxHeartbeats 4000000 in
theorem ac1_init {G : aw_G} {v : List va_E} {ty : Nat → Int32} : AM G fX1_init_ [.ref v.length, .ref (v.length + 1)] (v ++ [.inr (1, [.null, .null, .null]), .inr (4, [.ref (v.length + 2)]), .inl (0, 6, .inl ty)]) (qx (.inl none) (v ++ [.inr (1, [.ref (v.length + 1), .ref (v.length + 3), .ref (v.length + 4)]), .inr (4, [.ref (v.length + 2)]), .inl (0, 6, .inl ty), .inl (5, 10, .inr (.inr (.inr (.inr (fun _ => none))))), .inl (0, 6, .inl (fun _ => 0))])) := by
  refine AM_of (by decide) rfl rfl (Nat.le_of_ble_eq_true rfl) ?_
  show AW G fX1_init_ 2 16 (v ++ [.inr (1, [.null, .null, .null]), .inr (4, [.ref (v.length + 2)]), .inl (0, 6, .inl ty)]) 0 [some (.ref v.length), some (.ref (v.length + 1))] [] _
  refine r_aload_n (pc := 0) dX1_init__0 rfl rfl ?_
  refine s_X1_3 (pc := 1) rfl (Nat.le_of_ble_eq_true rfl) (Nat.le_of_ble_eq_true rfl) dX1_init__1 ?_
  refine r_aload_n (pc := 4) dX1_init__4 rfl rfl ?_
  refine r_bipush (pc := 5) (v := 10) dX1_init__5 (by decide) ?_
  refine r_newq (pc := 7) (t := 5) (index := 9) (kc' := 1) (ks' := 6) (N := 10) (fun _ => rfl) tw_117 tw_118 (by decide) (by decide) (by decide) (Nat.le_of_ble_eq_true rfl) (Nat.le_of_ble_eq_true rfl) dX1_init__7 ?_
  rw [show ((v ++ [.inr (1, [.null, .null, .null]), .inr (4, [.ref (v.length + 2)]), .inl (0, 6, .inl ty)]) : List va_E).length = v.length + 3 by simp, List.append_assoc]
  show AW G fX1_init_ 1 6 (v ++ [.inr (1, [.null, .null, .null]), .inr (4, [.ref (v.length + 2)]), .inl (0, 6, .inl ty), .inl (5, 10, .inr (.inr (.inr (.inr (fun _ => none)))))]) 10 [some (.ref v.length), some (.ref (v.length + 1))] [.ref (v.length + 3), .ref v.length] _
  refine p_X1_11 (pc := 10) (w' := (v ++ [.inr (1, [.null, .ref (v.length + 3), .null]), .inr (4, [.ref (v.length + 2)]), .inl (0, 6, .inl ty), .inl (5, 10, .inr (.inr (.inr (.inr (fun _ => none)))))])) rfl rfl (by rw [List.getElem?_append_right (Nat.le_refl _), Nat.sub_self]; rfl) (Nat.le_of_ble_eq_true rfl) dX1_init__10 (by rw [List.set_append_right _ _ (Nat.le_refl _), Nat.sub_self]; rfl) ?_
  refine r_aload_n (pc := 13) dX1_init__13 rfl rfl ?_
  refine r_bipush (pc := 14) (v := 6) dX1_init__14 (by decide) ?_
  refine r_new_int (pc := 16) (kc' := 0) (ks' := 0) (N := 6) tw_110 (by decide) (by decide) (by decide) (Nat.le_of_ble_eq_true rfl) (Nat.le_of_ble_eq_true rfl) dX1_init__16 ?_
  rw [show ((v ++ [.inr (1, [.null, .ref (v.length + 3), .null]), .inr (4, [.ref (v.length + 2)]), .inl (0, 6, .inl ty), .inl (5, 10, .inr (.inr (.inr (.inr (fun _ => none)))))]) : List va_E).length = v.length + 4 by simp, List.append_assoc]
  show AW G fX1_init_ 0 0 (v ++ [.inr (1, [.null, .ref (v.length + 3), .null]), .inr (4, [.ref (v.length + 2)]), .inl (0, 6, .inl ty), .inl (5, 10, .inr (.inr (.inr (.inr (fun _ => none))))), .inl (0, 6, .inl (fun _ => 0))]) 18 [some (.ref v.length), some (.ref (v.length + 1))] [.ref (v.length + 4), .ref v.length] _
  refine p_X1_17 (pc := 18) (w' := (v ++ [.inr (1, [.null, .ref (v.length + 3), .ref (v.length + 4)]), .inr (4, [.ref (v.length + 2)]), .inl (0, 6, .inl ty), .inl (5, 10, .inr (.inr (.inr (.inr (fun _ => none))))), .inl (0, 6, .inl (fun _ => 0))])) rfl rfl (by rw [List.getElem?_append_right (Nat.le_refl _), Nat.sub_self]; rfl) (Nat.le_of_ble_eq_true rfl) dX1_init__18 (by rw [List.set_append_right _ _ (Nat.le_refl _), Nat.sub_self]; rfl) ?_
  refine r_aload_n (pc := 21) dX1_init__21 rfl rfl ?_
  refine r_aload_n (pc := 22) dX1_init__22 rfl rfl ?_
  refine p_X1_26 (pc := 23) (w' := (v ++ [.inr (1, [.ref (v.length + 1), .ref (v.length + 3), .ref (v.length + 4)]), .inr (4, [.ref (v.length + 2)]), .inl (0, 6, .inl ty), .inl (5, 10, .inr (.inr (.inr (.inr (fun _ => none))))), .inl (0, 6, .inl (fun _ => 0))])) rfl rfl (by rw [List.getElem?_append_right (Nat.le_refl _), Nat.sub_self]; rfl) (Nat.le_of_ble_eq_true rfl) dX1_init__23 (by rw [List.set_append_right _ _ (Nat.le_refl _), Nat.sub_self]; rfl) ?_
  refine r_vret (pc := 26) rfl dX1_init__26 ?_
  exact ⟨rfl, rfl⟩
