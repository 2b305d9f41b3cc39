/-! ===== the class: the constructor of Answer ===== -/
set_option maxRecDepth 100000 in
set_option maxHeartbeats 4000000 in
theorem ac0_init {G : aw_G} {v : List va_E} {x : Int32} {f : Nat} : AM G fX0_init [.ref v.length, .int x, .ref f] (v ++ [.inr (0, [.int 0, .null, .null, .int 0, .int 0])]) (qx (.inl none) (v ++ [.inr (0, [.int x, .ref f, .ref (v.length + 1), .int 0, .int 0]), .inr (5, [.ref (v.length + 2), .int 0]), .inl (0, 6, .inl (fun _ => 0))])) := by
  have h6 : AM G fX6_init [.ref (v.length + 1)] (v ++ [.inr (0, [.int 0, .null, .null, .int 0, .int 0]), .inr (5, [.null, .int 0])]) (qx (.inl none) (v ++ [.inr (0, [.int 0, .null, .null, .int 0, .int 0]), .inr (5, [.ref (v.length + 2), .int 0]), .inl (0, 6, .inl (fun _ => 0))])) := by
    have h := ac6_init (G := G) (w := (v ++ [.inr (0, [.int 0, .null, .null, .int 0, .int 0]), .inr (5, [.null, .int 0])])) (a := v.length + 1) (by rw [List.getElem?_append_right (by omega), Nat.add_sub_cancel_left]; rfl)
    rw [List.set_append_right _ _ (by omega), Nat.add_sub_cancel_left, show ((v ++ [.inr (0, [.int 0, .null, .null, .int 0, .int 0]), .inr (5, [.null, .int 0])]) : List va_E).length = v.length + 2 by simp, List.append_assoc] at h
    exact h
  refine AM_of (by decide) rfl rfl (Nat.le_of_ble_eq_true rfl) ?_
  show AW G fX0_init 2 8 (v ++ [.inr (0, [.int 0, .null, .null, .int 0, .int 0])]) 0 [some (.ref v.length), some (.int x), some (.ref f)] [] _
  refine r_aload_n (pc := 0) dX0_init_0 rfl rfl ?_
  refine s_X0_3 (pc := 1) rfl (Nat.le_of_ble_eq_true rfl) (Nat.le_of_ble_eq_true rfl) dX0_init_1 ?_
  refine r_aload_n (pc := 4) dX0_init_4 rfl rfl ?_
  refine n_X6 (pc := 5) (index := 9) (kc' := 1) (ks' := 6) tw_673 (Nat.le_of_ble_eq_true rfl) (Nat.le_of_ble_eq_true rfl) dX0_init_5 ?_
  rw [show ((v ++ [.inr (0, [.int 0, .null, .null, .int 0, .int 0])]) : List va_E).length = v.length + 1 by simp, List.append_assoc]
  show AW G fX0_init 1 6 (v ++ [.inr (0, [.int 0, .null, .null, .int 0, .int 0]), .inr (5, [.null, .int 0])]) 8 [some (.ref v.length), some (.int x), some (.ref f)] [.ref (v.length + 1), .ref v.length] _
  refine r_dup (pc := 8) dX0_init_8 rfl ?_
  refine s_X0_11 (pc := 9) (kc' := 0) (ks' := 0) (rest := [.ref (v.length + 1), .ref v.length]) rfl rfl h6 (Nat.le_of_ble_eq_true rfl) (Nat.le_of_ble_eq_true rfl) (Nat.le_of_ble_eq_true rfl) (Nat.le_of_ble_eq_true rfl) (by exact (Nat.le_of_ble_eq_true rfl)) rfl (List.forall_mem_cons.mpr ⟨rfl, fun _ h => nomatch h⟩) rfl dX0_init_9 aw_kt (aw_kv ?_)
  refine p_X0_12 (pc := 12) (w' := (v ++ [.inr (0, [.int 0, .null, .ref (v.length + 1), .int 0, .int 0]), .inr (5, [.ref (v.length + 2), .int 0]), .inl (0, 6, .inl (fun _ => 0))])) rfl rfl (by rw [List.getElem?_append_right (Nat.le_refl _), Nat.sub_self]; rfl) (Nat.le_of_ble_eq_true rfl) dX0_init_12 (by rw [List.set_append_right _ _ (Nat.le_refl _), Nat.sub_self]; rfl) ?_
  refine r_aload_n (pc := 15) dX0_init_15 rfl rfl ?_
  refine r_iconst (pc := 16) (v := 0) dX0_init_16 (by decide) ?_
  refine p_X0_18 (pc := 17) (w' := (v ++ [.inr (0, [.int 0, .null, .ref (v.length + 1), .int 0, .int 0]), .inr (5, [.ref (v.length + 2), .int 0]), .inl (0, 6, .inl (fun _ => 0))])) rfl (by rw [List.getElem?_append_right (Nat.le_refl _), Nat.sub_self]; rfl) (Nat.le_of_ble_eq_true rfl) dX0_init_17 (by rw [List.set_append_right _ _ (Nat.le_refl _), Nat.sub_self]; rfl) ?_
  refine r_aload_n (pc := 20) dX0_init_20 rfl rfl ?_
  refine r_iconst (pc := 21) (v := 0) dX0_init_21 (by decide) ?_
  refine p_X0_22 (pc := 22) (w' := (v ++ [.inr (0, [.int 0, .null, .ref (v.length + 1), .int 0, .int 0]), .inr (5, [.ref (v.length + 2), .int 0]), .inl (0, 6, .inl (fun _ => 0))])) rfl (by rw [List.getElem?_append_right (Nat.le_refl _), Nat.sub_self]; rfl) (Nat.le_of_ble_eq_true rfl) dX0_init_22 (by rw [List.set_append_right _ _ (Nat.le_refl _), Nat.sub_self]; rfl) ?_
  refine r_aload_n (pc := 25) dX0_init_25 rfl rfl ?_
  refine r_iload_n (pc := 26) dX0_init_26 rfl rfl ?_
  refine p_X0_25 (pc := 27) (w' := (v ++ [.inr (0, [.int x, .null, .ref (v.length + 1), .int 0, .int 0]), .inr (5, [.ref (v.length + 2), .int 0]), .inl (0, 6, .inl (fun _ => 0))])) rfl rfl (by rw [List.getElem?_append_right (Nat.le_refl _), Nat.sub_self]; rfl) (Nat.le_of_ble_eq_true rfl) dX0_init_27 (by rw [List.set_append_right _ _ (Nat.le_refl _), Nat.sub_self]; rfl) ?_
  refine r_aload_n (pc := 30) dX0_init_30 rfl rfl ?_
  refine r_aload_n (pc := 31) dX0_init_31 rfl rfl ?_
  refine p_X0_28 (pc := 32) (w' := (v ++ [.inr (0, [.int x, .ref f, .ref (v.length + 1), .int 0, .int 0]), .inr (5, [.ref (v.length + 2), .int 0]), .inl (0, 6, .inl (fun _ => 0))])) rfl rfl (by rw [List.getElem?_append_right (Nat.le_refl _), Nat.sub_self]; rfl) (Nat.le_of_ble_eq_true rfl) dX0_init_32 (by rw [List.set_append_right _ _ (Nat.le_refl _), Nat.sub_self]; rfl) ?_
  refine r_vret (pc := 35) rfl dX0_init_35 ?_
  exact ⟨rfl, rfl⟩
