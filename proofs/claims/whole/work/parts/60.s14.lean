/-! ===== the class: the constructor of Values ===== -/
set_option maxRecDepth 100000 in
set_option maxHeartbeats 4000000 in
theorem ac6_init {G : aw_G} {w : List va_E} {a : Nat} (ha : w[a]? = some (.inr (5, [.null, .int 0]))) : AM G fX6_init [.ref a] w (qx (.inl none) (w.set a (.inr (5, [.ref w.length, .int 0])) ++ [.inl (0, 6, .inl (fun _ => 0))])) := by
  have hal := (List.getElem?_eq_some_iff.mp ha).1
  have at1 : ∀ (e : va_E), (w.set a e)[a]? = some e := fun e => List.getElem?_set_self hal
  refine AM_of (by decide) rfl rfl (Nat.le_of_ble_eq_true rfl) ?_
  show AW G fX6_init 1 6 w 0 [some (.ref a)] [] _
  refine r_aload_n (pc := 0) dX6_init_0 rfl rfl ?_
  refine s_X6_3 (pc := 1) (kc' := 1) (ks' := 6) rfl rfl ac_init3 (Nat.le_of_ble_eq_true rfl) (Nat.le_of_ble_eq_true rfl) (Nat.le_of_ble_eq_true rfl) (Nat.le_of_ble_eq_true rfl) (by exact (Nat.le_of_ble_eq_true rfl)) rfl (List.forall_mem_cons.mpr ⟨rfl, fun _ h => nomatch h⟩) rfl dX6_init_1 aw_kt (aw_kv ?_)
  refine r_aload_n (pc := 4) dX6_init_4 rfl rfl ?_
  refine r_bipush (pc := 5) (v := 6) dX6_init_5 (by decide) ?_
  refine r_new_int (pc := 7) (kc' := 0) (ks' := 0) (N := 6) tw_110 (by decide) (by decide) (by decide) (Nat.le_of_ble_eq_true rfl) (Nat.le_of_ble_eq_true rfl) dX6_init_7 ?_
  refine p_X6_9 (pc := 9) (w' := w.set a (.inr (5, [.ref w.length, .int 0])) ++ [.inl (0, 6, .inl (fun _ => 0))]) rfl rfl (wp_old ha) (Nat.le_of_ble_eq_true rfl) dX6_init_9 (by rw [List.set_append_left _ _ hal]; rfl) ?_
  refine r_aload_n (pc := 12) dX6_init_12 rfl rfl ?_
  refine r_iconst (pc := 13) (v := 0) dX6_init_13 (by decide) ?_
  refine p_X6_15 (pc := 14) (w' := w.set a (.inr (5, [.ref w.length, .int 0])) ++ [.inl (0, 6, .inl (fun _ => 0))]) rfl (wp_old (at1 _)) (Nat.le_of_ble_eq_true rfl) dX6_init_14 (by rw [List.set_append_left _ _ (by rw [List.length_set]; exact hal), List.set_set]; rfl) ?_
  refine r_vret (pc := 17) rfl dX6_init_17 ?_
  exact ⟨rfl, rfl⟩
