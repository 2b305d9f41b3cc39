/-! ===== the class: a type is given ===== -/
section S18
set_option maxRecDepth 100000 in
set_option maxHeartbeats 4000000 in
theorem ac5_give {G : aw_G} {w : List va_E} {r q : Nat} {ty : Nat → Int32} (hw1 : w[r]? = some (.inr (4, [.ref q]))) (hw2 : w[q]? = some (.inl (0, 6, .inl ty))) {j : Nat} (hj : j < 6) (x : Int32) : AM G fX5_give [.ref r, .int (nI j), .int x] w (qx (.inl none) (w.set q (.inl (0, 6, .inl (upd ty j x))))) := by
  refine AM_of (by decide) rfl rfl (Nat.le_of_ble_eq_true rfl) ?_
  show AW G fX5_give 0 0 w 0 [some (.ref r), some (.int (nI j)), some (.int x)] [] _
  refine r_iload_n (pc := 0) dX5_give_0 rfl rfl ?_
  refine r_if_lt (pc := 1) (tgt := 20) dX5_give_1 (by decide) (fun h => absurd h (nI_pos (by omega))) (fun h1 => ?_)
  refine r_iload_n (pc := 4) dX5_give_4 rfl rfl ?_
  refine r_aload_n (pc := 5) dX5_give_5 rfl rfl ?_
  refine g_X5_9 (pc := 6) rfl hw1 rfl dX5_give_6 ?_
  refine r_alen (pc := 9) (t := 0) (v := nI 6) (fun _ => rfl) hw2 rfl dX5_give_9 ?_
  refine r_icmp_ge (pc := 10) (tgt := 20) dX5_give_10 (by decide) (fun h => absurd h (nI_ge9 hj (by decide))) (fun h10 => ?_)
  refine r_aload_n (pc := 13) dX5_give_13 rfl rfl ?_
  refine g_X5_9 (pc := 14) rfl hw1 rfl dX5_give_14 ?_
  refine r_iload_n (pc := 17) dX5_give_17 rfl rfl ?_
  refine r_iload_n (pc := 18) dX5_give_18 rfl rfl ?_
  refine r_iastore (pc := 19) (w' := w.set q (.inl (0, 6, .inl (upd ty j x)))) hw2 (vp_in_nI hj (Nat.le_of_ble_eq_true rfl)) dX5_give_19 (by rw [nI_clamp (by omega)]) ?_
  refine r_vret (pc := 20) rfl dX5_give_20 ?_
  exact ⟨rfl, rfl⟩

end S18
