/-! ===== the class: arrays are copied; a Formula is made ===== -/
section S7
/-- what a copy of an array is -/
def cpQ (w : List va_E) (n : Nat) (f : Nat → Int32) : aw_R → List va_E → Prop := fun r w' => ∃ g : Nat → Int32, r = .inl (some (.ref w.length)) ∧ w' = w ++ [.inl (0, n, .inl g)] ∧ ∀ i, i < n → g i = f i
theorem wp_at (w : List va_E) (e : va_E) : (w ++ [e])[w.length]? = some e := by rw [List.getElem?_append_right (Nat.le_refl _), Nat.sub_self]; rfl
theorem wp_old {w : List va_E} {a : Nat} {e x : va_E} (h : w[a]? = some e) : (w ++ [x])[a]? = some e := by rw [List.getElem?_append_left (List.getElem?_eq_some_iff.mp h).1]; exact h
theorem wp_set (w : List va_E) (e e' : va_E) : (w ++ [e]).set w.length e' = w ++ [e'] := by rw [List.set_append_right _ _ (Nat.le_refl _), Nat.sub_self]; rfl
set_option maxRecDepth 100000 in
set_option maxHeartbeats 4000000 in
theorem ac_copyOf {G : aw_G} {w : List va_E} {a m n : Nat} {f : Nat → Int32} (hw : w[a]? = some (.inl (0, m, .inl f))) (hn : n ≤ m) (hm : m ≤ 80) : AM G fJ7_copyOf_59c91 [.ref a, .int (nI n)] w (cpQ w n f) := by
  refine AM_of (by decide) rfl rfl (Nat.le_of_ble_eq_true rfl) ?_
  show AW G fJ7_copyOf_59c91 2 160 w 0 [some (.ref a), some (.int (nI n)), none] [] _
  refine r_iload_n (pc := 0) dJ7_copyOf_59c91_0 rfl rfl ?_
  refine r_aload_n (pc := 1) dJ7_copyOf_59c91_1 rfl rfl ?_
  refine r_alen (pc := 2) (t := 0) (v := nI m) (fun _ => rfl) hw rfl dJ7_copyOf_59c91_2 ?_
  refine r_icmp_ne (pc := 3) (tgt := 14) dJ7_copyOf_59c91_3 (by decide) (fun h3 => ?_) (fun h3 => ?_)
  · refine r_iload_n (pc := 14) dJ7_copyOf_59c91_14 rfl rfl ?_
    refine r_new_int (pc := 15) (kc' := 1) (ks' := 80) (N := n) tw_110 (nI_pos (by omega)) (nI_clamp (by omega)) (by rw [show componentBytes .int = 4 from rfl]; omega) (Nat.le_of_ble_eq_true rfl) (by omega) dJ7_copyOf_59c91_15 ?_
    refine r_astore_n (pc := 17) dJ7_copyOf_59c91_17 rfl (Nat.le_of_ble_eq_true rfl) rfl ?_
    refine r_aload_n (pc := 18) dJ7_copyOf_59c91_18 rfl rfl ?_
    refine r_iconst (pc := 19) (v := 0) dJ7_copyOf_59c91_19 (by decide) ?_
    refine r_aload_n (pc := 20) dJ7_copyOf_59c91_20 rfl rfl ?_
    refine r_iconst (pc := 21) (v := 0) dJ7_copyOf_59c91_21 (by decide) ?_
    refine r_aload_n (pc := 22) dJ7_copyOf_59c91_22 rfl rfl ?_
    refine r_alen (pc := 23) (t := 0) (v := nI m) (fun _ => rfl) (wp_old hw) rfl dJ7_copyOf_59c91_23 ?_
    refine r_iload_n (pc := 24) dJ7_copyOf_59c91_24 rfl rfl ?_
    refine r_min (pc := 25) (index := 304) tw_350 tw_351 tw_64 tw_352 (Nat.le_of_ble_eq_true rfl) (Nat.le_of_ble_eq_true rfl) dJ7_copyOf_59c91_25 ?_
    rw [if_pos (nI_lt (Nat.lt_of_le_of_ne hn (fun z => h3 (by rw [z]))) (by omega))]
    refine r_copyI (pc := 28) (a := w.length) (a0 := a) (w' := w ++ [.inl (0, n, .inl (va_cpy f (fun _ => 0) 0 0 n))]) (wp_old hw) (wp_at _ _) tw_353 tw_355 tw_354 tw_65 (by decide) (by decide) (nI_pos (by omega)) ?_ ?_ (Nat.le_of_ble_eq_true rfl) (Nat.le_of_ble_eq_true rfl) dJ7_copyOf_59c91_28 ?_ ?_
    · rw [nI_clamp (by omega)]; exact Nat.le_trans (Nat.le_of_eq (Nat.zero_add _)) hn
    · rw [nI_clamp (by omega)]; exact Nat.le_of_eq (Nat.zero_add _)
    · rw [nI_clamp (by omega), wp_set]; rfl
    · refine r_aload_n (pc := 31) dJ7_copyOf_59c91_31 rfl rfl ?_
      refine r_aret (pc := 32) rfl (Or.inr ⟨_, rfl⟩) (Or.inr ⟨_, rfl⟩) dJ7_copyOf_59c91_32 ?_
      exact ⟨_, rfl, rfl, fun i hi => by rw [pk_cpy_in (Nat.zero_le _) (by omega)]; congr 1; omega⟩
  · have hnm : n = m := (nI_eq (by omega) (by omega)).mp h3
    subst hnm
    refine r_aload_n (pc := 6) dJ7_copyOf_59c91_6 rfl rfl ?_
    refine r_cloneI (pc := 7) (index := 316) (kc' := 1) (ks' := 80) hw tw_343 tw_344 tw_345 tw_346 tw_347 tw_348 (Nat.le_of_ble_eq_true rfl) (Nat.le_of_ble_eq_true rfl) (Nat.le_of_ble_eq_true rfl) (by omega) dJ7_copyOf_59c91_7 ?_
    refine r_castI (pc := 10) (index := 317) tw_349 (wp_at _ _) dJ7_copyOf_59c91_10 ?_
    refine r_aret (pc := 13) rfl (Or.inr ⟨_, rfl⟩) (Or.inr ⟨_, rfl⟩) dJ7_copyOf_59c91_13 ?_
    exact ⟨f, rfl, rfl, fun i _ => rfl⟩
set_option maxRecDepth 100000 in
set_option maxHeartbeats 4000000 in
theorem ac_init2 {G : aw_G} {w : List va_E} {a b c n : Nat} {f : Nat → Int32} {lt : Int32} (ha : w[a]? = some (.inr (2, [.null, .null, .null, .int 0]))) (hb : w[b]? = some (.inl (0, n, .inl f))) (hn : n ≤ 40) : AM G fX2_init [.ref a, .ref b, .ref c, .int lt] w (qx (.inl none) (w.set a (.inr (2, [.ref b, .ref w.length, .ref c, .int lt])) ++ [.inl (0, n, .inl (fun _ => 0))])) := by
  have hal := (List.getElem?_eq_some_iff.mp ha).1
  have hab : a ≠ b := fun z => by rw [z, hb] at ha; cases ha
  have at1 : ∀ (e : va_E), (w.set a e)[a]? = some e := fun e => List.getElem?_set_self hal
  refine AM_of (by decide) rfl rfl (Nat.le_of_ble_eq_true rfl) ?_
  show AW G fX2_init 1 40 w 0 [some (.ref a), some (.ref b), some (.ref c), some (.int lt)] [] _
  refine r_aload_n (pc := 0) dX2_init_0 rfl rfl ?_
  refine s_X2_3 (pc := 1) rfl (Nat.le_of_ble_eq_true rfl) (Nat.le_of_ble_eq_true rfl) dX2_init_1 ?_
  refine r_aload_n (pc := 4) dX2_init_4 rfl rfl ?_
  refine r_aload_n (pc := 5) dX2_init_5 rfl rfl ?_
  refine p_X2_9 (pc := 6) rfl rfl ha (Nat.le_of_ble_eq_true rfl) dX2_init_6 rfl ?_
  refine r_aload_n (pc := 9) dX2_init_9 rfl rfl ?_
  refine r_aload_n (pc := 10) dX2_init_10 rfl rfl ?_
  refine r_alen (pc := 11) (t := 0) (v := nI n) (fun _ => rfl) (by rw [List.getElem?_set_ne hab]; exact hb) rfl dX2_init_11 ?_
  refine r_new_int (pc := 12) (kc' := 0) (ks' := 0) (N := n) tw_110 (nI_pos (by omega)) (nI_clamp (by omega)) (by rw [show componentBytes .int = 4 from rfl]; omega) (Nat.le_of_ble_eq_true rfl) (by omega) dX2_init_12 ?_
  rw [List.length_set]
  refine p_X2_15 (pc := 14) (w' := w.set a (.inr (2, [.ref b, .ref w.length, .null, .int 0])) ++ [.inl (0, n, .inl (fun _ => 0))]) rfl rfl (wp_old (at1 _)) (Nat.le_of_ble_eq_true rfl) dX2_init_14 (by rw [List.set_append_left _ _ (by rw [List.length_set]; exact hal), List.set_set]; rfl) ?_
  refine r_aload_n (pc := 17) dX2_init_17 rfl rfl ?_
  refine r_aload_n (pc := 18) dX2_init_18 rfl rfl ?_
  refine p_X2_18 (pc := 19) (w' := w.set a (.inr (2, [.ref b, .ref w.length, .ref c, .int 0])) ++ [.inl (0, n, .inl (fun _ => 0))]) rfl rfl (wp_old (at1 _)) (Nat.le_of_ble_eq_true rfl) dX2_init_19 (by rw [List.set_append_left _ _ (by rw [List.length_set]; exact hal), List.set_set]; rfl) ?_
  refine r_aload_n (pc := 22) dX2_init_22 rfl rfl ?_
  refine r_iload_n (pc := 23) dX2_init_23 rfl rfl ?_
  refine p_X2_21 (pc := 24) (w' := w.set a (.inr (2, [.ref b, .ref w.length, .ref c, .int lt])) ++ [.inl (0, n, .inl (fun _ => 0))]) rfl rfl (wp_old (at1 _)) (Nat.le_of_ble_eq_true rfl) dX2_init_24 (by rw [List.set_append_left _ _ (by rw [List.length_set]; exact hal), List.set_set]; rfl) ?_
  refine r_vret (pc := 27) rfl dX2_init_27 ?_
  exact ⟨rfl, rfl⟩
end S7
