/-! ===== the class: Types are copied ===== -/
theorem tw_574 : (Cond.methodLink RX5 15 ⟨"[I", "clone", "()Ljava/lang/Object;"⟩) ∈ aw_ztb := aw_zw 574 (by decide +kernel) rfl
def cpT (v : List va_E) (ty : Nat → Int32) : List va_E := v ++ [.inr (4, [.ref (v.length + 1)]), .inl (0, 6, .inl ty)]
set_option maxRecDepth 100000 in
set_option maxHeartbeats 4000000 in
theorem ac_copied {G : aw_G} {v : List va_E} {t q : Nat} {ty : Nat → Int32} (hw1 : v[t]? = some (.inr (4, [.ref q]))) (hw2 : v[q]? = some (.inl (0, 6, .inl ty))) : AM G fX5_copied [.ref t] v (qx (.inl (some (.ref v.length))) (cpT v ty)) := by
  have h5 : AM G fX5_init [.ref v.length, .ref (v.length + 1)] (v ++ [.inr (4, [.null]), .inl (0, 6, .inl ty)]) (qx (.inl none) (cpT v ty)) := ac5_init (by rw [List.getElem?_append_right (Nat.le_refl _), Nat.sub_self]; rfl) (by rw [List.set_append_right _ _ (Nat.le_refl _), Nat.sub_self]; rfl)
  refine AM_of (by decide) rfl rfl (Nat.le_of_ble_eq_true rfl) ?_
  show AW G fX5_copied 2 81 v 0 [some (.ref t)] [] _
  refine n_X5 (pc := 0) (index := 10) (kc' := 1) (ks' := 6) tw_573 (Nat.le_of_ble_eq_true rfl) (Nat.le_of_ble_eq_true rfl) dX5_copied_0 ?_
  refine r_dup (pc := 3) dX5_copied_3 rfl ?_
  refine r_aload_n (pc := 4) dX5_copied_4 rfl rfl ?_
  refine g_X5_9 (pc := 5) rfl (wp_old hw1) rfl dX5_copied_5 ?_
  refine r_cloneI (pc := 8) (index := 15) (kc' := 0) (ks' := 0) (wp_old hw2) tw_574 tw_344 tw_345 tw_346 tw_347 tw_348 (Nat.le_of_ble_eq_true rfl) (Nat.le_of_ble_eq_true rfl) (Nat.le_of_ble_eq_true rfl) (Nat.le_of_ble_eq_true rfl) dX5_copied_8 ?_
  refine r_castI (pc := 11) (index := 16) tw_575 (wp_at _ _) dX5_copied_11 ?_
  rw [show (v ++ [.inr (4, [.null])] : List va_E).length = v.length + 1 by simp, List.append_assoc]
  show AW G fX5_copied 0 0 (v ++ [.inr (4, [.null]), .inl (0, 6, .inl ty)]) 14 [some (.ref t)] [.ref (v.length + 1), .ref v.length, .ref v.length] _
  refine s_X5_20 (pc := 14) (kc' := 0) (ks' := 0) (rest := [.ref v.length]) rfl rfl h5 (Nat.le_of_ble_eq_true rfl) (Nat.le_of_ble_eq_true rfl) (Nat.le_of_ble_eq_true rfl) (Nat.le_of_ble_eq_true rfl) (by exact (Nat.le_of_ble_eq_true rfl)) rfl (List.forall_mem_cons.mpr ⟨rfl, (List.forall_mem_cons.mpr ⟨rfl, fun _ h => nomatch h⟩)⟩) rfl dX5_copied_14 aw_kt (aw_kv ?_)
  refine r_aret (pc := 17) rfl (Or.inl ⟨_, rfl⟩) (Or.inr ⟨_, rfl⟩) dX5_copied_17 ?_
  exact ⟨rfl, rfl⟩
