/-! ===== the class: the calls on its text ===== -/
section S6
set_option maxRecDepth 100000 in
set_option maxHeartbeats 4000000 in
theorem ac_append {G : aw_G} {c0 : va_E} {tx : Nat → Int32} {tn p k l : Nat} {lt : Int32} {st pn : Nat → Int32} {tl : List va_E} (htn : tn < 40) (x : Int32) : AM G fX4_append [.ref 1, .int x] (sW c0 tx tn p k l lt st pn tl) (qx (.inl none) (sW c0 (upd tx tn (vp_nar .char x)) (tn + 1) p k l lt st pn tl)) := by
  refine AM_of (by decide) rfl rfl (Nat.le_of_ble_eq_true rfl) ?_
  show AW G fX4_append 0 0 (sW c0 tx tn p k l lt st pn tl) 0 [some (.ref 1), some (.int x)] [] _
  refine r_aload_n (pc := 0) dX4_append_0 rfl rfl ?_
  refine sg_15 (pc := 1) rfl dX4_append_1 ?_
  refine r_aload_n (pc := 4) dX4_append_4 rfl rfl ?_
  refine sg_9 (pc := 5) rfl dX4_append_5 ?_
  refine sl_2 (pc := 8) dX4_append_8 ?_
  refine r_icmp_ge (pc := 9) (tgt := 32) dX4_append_9 (by decide) (fun h => absurd h (nI_ge9 htn (by decide))) (fun h9 => ?_)
  refine r_aload_n (pc := 12) dX4_append_12 rfl rfl ?_
  refine sg_9 (pc := 13) rfl dX4_append_13 ?_
  refine r_aload_n (pc := 16) dX4_append_16 rfl rfl ?_
  refine sg_15 (pc := 17) rfl dX4_append_17 ?_
  refine r_iload_n (pc := 20) dX4_append_20 rfl rfl ?_
  refine ss_2 (pc := 21) (tn) ⟨rfl, htn⟩ dX4_append_21 ?_
  refine r_aload_n (pc := 22) dX4_append_22 rfl rfl ?_
  refine r_dup (pc := 23) dX4_append_23 rfl ?_
  refine sg_15 (pc := 24) rfl dX4_append_24 ?_
  refine r_iconst (pc := 27) (v := 1) dX4_append_27 (by decide) ?_
  refine r_iadd (pc := 28) dX4_append_28 ?_
  rw [nI_1]
  refine sp_15 (pc := 29) rfl dX4_append_29 ?_
  refine r_vret (pc := 32) rfl dX4_append_32 ?_
  exact ⟨rfl, rfl⟩

/-- FormWright's own cell -/
def c0W (vn an : Nat) : va_E := .inr (6, [.ref 1, .ref 5, .ref 10, .int (nI vn), .ref 11, .int (nI an)])
/-- what type answers -/
def tyQ (vn an : Nat) (tx : Nat → Int32) (tn p k l : Nat) (lt : Int32) (st pn : Nat → Int32) (tl : List va_E) (x : Int32) : aw_R → List va_E → Prop := fun r w' => if tn < 40 then r = .inl (some (.int (nI (tn + 1)))) ∧ w' = (sW (c0W vn an) (upd tx tn (vp_nar .char x)) (tn + 1) p k l lt st pn tl) else r = .inr "java/lang/IllegalStateException" ∧ w' = (sW (c0W vn an) tx tn p k l lt st pn tl)
set_option maxRecDepth 100000 in
set_option maxHeartbeats 4000000 in
theorem ax_type {G : aw_G} {vn an : Nat} {tx : Nat → Int32} {tn p k l : Nat} {lt : Int32} {st pn : Nat → Int32} {tl : List va_E} (htn : tn ≤ 40) (x : Int32) : AM G fX7_type [.ref 0, .int x] (sW (c0W vn an) tx tn p k l lt st pn tl) (tyQ vn an tx tn p k l lt st pn tl x) := by
  refine AM_of (by decide) rfl rfl (Nat.le_of_ble_eq_true rfl) ?_
  show AW G fX7_type 1 6 (sW (c0W vn an) tx tn p k l lt st pn tl) 0 [some (.ref 0), some (.int x)] [] _
  refine r_aload_n (pc := 0) dX7_type_0 rfl rfl ?_
  refine g_X7_10 (pc := 1) rfl rfl rfl dX7_type_1 ?_
  refine s_X7_40 (pc := 4) (kc' := 1) (ks' := 6) rfl rfl ac_size rfl (Nat.le_of_ble_eq_true rfl) (Nat.le_of_ble_eq_true rfl) (Nat.le_of_ble_eq_true rfl) (Nat.le_of_ble_eq_true rfl) (by exact (Nat.le_of_ble_eq_true rfl)) rfl (List.forall_mem_cons.mpr ⟨rfl, fun _ h => nomatch h⟩) rfl dX7_type_4 aw_kt (aw_kq ?_)
  refine r_bipush (pc := 7) (v := 40) dX7_type_7 (by decide) ?_
  refine r_icmp_lt (pc := 9) (tgt := 22) dX7_type_9 (by decide) (fun h9 => ?_) (fun h9 => ?_)
  · have ht : tn < 40 := (nI_ltI (b := 40) (by omega) (by decide)).mp h9
    refine r_aload_n (pc := 22) dX7_type_22 rfl rfl ?_
    refine g_X7_10 (pc := 23) rfl rfl rfl dX7_type_23 ?_
    refine r_iload_n (pc := 26) dX7_type_26 rfl rfl ?_
    refine s_X7_51 (pc := 27) (kc' := 1) (ks' := 6) rfl rfl (ac_append (by omega) _) rfl (Nat.le_of_ble_eq_true rfl) (Nat.le_of_ble_eq_true rfl) (Nat.le_of_ble_eq_true rfl) (Nat.le_of_ble_eq_true rfl) (by exact (Nat.le_of_ble_eq_true rfl)) rfl (List.forall_mem_cons.mpr ⟨rfl, (List.forall_mem_cons.mpr ⟨rfl, fun _ h => nomatch h⟩)⟩) rfl dX7_type_27 aw_kt (aw_kv ?_)
    refine r_aload_n (pc := 30) dX7_type_30 rfl rfl ?_
    refine g_X7_10 (pc := 31) rfl rfl rfl dX7_type_31 ?_
    refine s_X7_40 (pc := 34) (kc' := 1) (ks' := 6) rfl rfl ac_size rfl (Nat.le_of_ble_eq_true rfl) (Nat.le_of_ble_eq_true rfl) (Nat.le_of_ble_eq_true rfl) (Nat.le_of_ble_eq_true rfl) (by exact (Nat.le_of_ble_eq_true rfl)) rfl (List.forall_mem_cons.mpr ⟨rfl, fun _ h => nomatch h⟩) rfl dX7_type_34 aw_kt (aw_kq ?_)
    refine r_iret (pc := 37) rfl rfl dX7_type_37 ?_
    unfold tyQ
    rw [if_pos ht]
    exact ⟨rfl, rfl⟩
  · refine t_ise (pc := 12) (text := "the text is full") rfl rfl (by decide) dX7_type_12 dX7_type_15 dX7_type_16 dX7_type_18 dX7_type_21 (Nat.le_of_ble_eq_true rfl) (Nat.le_of_ble_eq_true rfl) (Nat.le_of_ble_eq_true rfl) (Nat.le_of_ble_eq_true rfl) ?_
    unfold tyQ
    rw [if_neg (fun z => h9 (nI_lt z (by decide)))]
    exact ⟨rfl, rfl⟩

set_option maxRecDepth 100000 in
set_option maxHeartbeats 4000000 in
theorem ax_clear {G : aw_G} {vn an : Nat} {tx : Nat → Int32} {tn p k l : Nat} {lt : Int32} {st pn : Nat → Int32} {tl : List va_E}  : AM G fX7_clear [.ref 0] (sW (c0W vn an) tx tn p k l lt st pn tl) (qx (.inl (some (.int (nI tn)))) (sW (c0W vn an) tx 0 p k l lt st pn tl)) := by
  refine AM_of (by decide) rfl rfl (Nat.le_of_ble_eq_true rfl) ?_
  show AW G fX7_clear 0 0 (sW (c0W vn an) tx tn p k l lt st pn tl) 0 [some (.ref 0), none] [] _
  refine r_aload_n (pc := 0) dX7_clear_0 rfl rfl ?_
  refine g_X7_10 (pc := 1) rfl rfl rfl dX7_clear_1 ?_
  refine s_X7_40 (pc := 4) (kc' := 0) (ks' := 0) rfl rfl ac_size rfl (Nat.le_of_ble_eq_true rfl) (Nat.le_of_ble_eq_true rfl) (Nat.le_of_ble_eq_true rfl) (Nat.le_of_ble_eq_true rfl) (by exact (Nat.le_of_ble_eq_true rfl)) rfl (List.forall_mem_cons.mpr ⟨rfl, fun _ h => nomatch h⟩) rfl dX7_clear_4 aw_kt (aw_kq ?_)
  refine r_istore_n (pc := 7) dX7_clear_7 rfl (Nat.le_of_ble_eq_true rfl) rfl ?_
  refine r_aload_n (pc := 8) dX7_clear_8 rfl rfl ?_
  refine g_X7_10 (pc := 9) rfl rfl rfl dX7_clear_9 ?_
  refine s_X7_55 (pc := 12) (kc' := 0) (ks' := 0) rfl rfl ac_empty rfl (Nat.le_of_ble_eq_true rfl) (Nat.le_of_ble_eq_true rfl) (Nat.le_of_ble_eq_true rfl) (Nat.le_of_ble_eq_true rfl) (by exact (Nat.le_of_ble_eq_true rfl)) rfl (List.forall_mem_cons.mpr ⟨rfl, fun _ h => nomatch h⟩) rfl dX7_clear_12 aw_kt (aw_kv ?_)
  refine r_iload_n (pc := 15) dX7_clear_15 rfl rfl ?_
  refine r_iret (pc := 16) rfl rfl dX7_clear_16 ?_
  exact ⟨rfl, rfl⟩

set_option maxRecDepth 100000 in
set_option maxHeartbeats 4000000 in
theorem ax_versions {G : aw_G} {vn an : Nat} {tx : Nat → Int32} {tn p k l : Nat} {lt : Int32} {st pn : Nat → Int32} {tl : List va_E}  : AM G fX7_versions [.ref 0] (sW (c0W vn an) tx tn p k l lt st pn tl) (qx (.inl (some (.int (nI vn)))) (sW (c0W vn an) tx tn p k l lt st pn tl)) := by
  refine AM_of (by decide) rfl rfl (Nat.le_of_ble_eq_true rfl) ?_
  show AW G fX7_versions 0 0 (sW (c0W vn an) tx tn p k l lt st pn tl) 0 [some (.ref 0)] [] _
  refine r_aload_n (pc := 0) dX7_versions_0 rfl rfl ?_
  refine g_X7_27 (pc := 1) rfl rfl rfl dX7_versions_1 ?_
  refine r_iret (pc := 4) rfl rfl dX7_versions_4 ?_
  exact ⟨rfl, rfl⟩

set_option maxRecDepth 100000 in
set_option maxHeartbeats 4000000 in
theorem ax_answers {G : aw_G} {vn an : Nat} {tx : Nat → Int32} {tn p k l : Nat} {lt : Int32} {st pn : Nat → Int32} {tl : List va_E}  : AM G fX7_answers [.ref 0] (sW (c0W vn an) tx tn p k l lt st pn tl) (qx (.inl (some (.int (nI an)))) (sW (c0W vn an) tx tn p k l lt st pn tl)) := by
  refine AM_of (by decide) rfl rfl (Nat.le_of_ble_eq_true rfl) ?_
  show AW G fX7_answers 0 0 (sW (c0W vn an) tx tn p k l lt st pn tl) 0 [some (.ref 0)] [] _
  refine r_aload_n (pc := 0) dX7_answers_0 rfl rfl ?_
  refine g_X7_37 (pc := 1) rfl rfl rfl dX7_answers_1 ?_
  refine r_iret (pc := 4) rfl rfl dX7_answers_4 ?_
  exact ⟨rfl, rfl⟩

theorem aw_kF {G : aw_G} {F : aw_F} {kc ks : Nat} {w : List va_E} {pc : Nat} {loc : List (Option Value)} {rest : List Value} {Q : aw_R → List va_E → Prop} {c0 : va_E} {tx : Nat → Int32} {tn : Nat} {tl : List va_E} (h1 : (cT (tlist tx 0 tn)).1 = true ∧ (cT (tlist tx 0 tn)).2.1 = [] → ∀ st2 pn2 : Nat → Int32, arow st2 ((cT (tlist tx 0 tn)).2.2.map stc) → arow pn2 (plS (cT (tlist tx 0 tn)).2.2) → AW G F kc ks (sW c0 tx tn tn ((cT (tlist tx 0 tn)).2.2.map stc).length (plS (cT (tlist tx 0 tn)).2.2).length (msk 0 (cT (tlist tx 0 tn)).2.2) st2 pn2 tl) pc loc (.int (-1) :: rest) Q) (h2 : ¬ ((cT (tlist tx 0 tn)).1 = true ∧ (cT (tlist tx 0 tn)).2.1 = []) → ∀ (p2 k2 l2 : Nat) (lt2 : Int32) (st2 pn2 : Nat → Int32), k2 ≤ 40 → l2 ≤ 80 → p2 = tn - (cT (tlist tx 0 tn)).2.1.length → AW G F kc ks (sW c0 tx tn p2 k2 l2 lt2 st2 pn2 tl) pc loc (.int (nI p2) :: rest) Q) : ∀ (r : Option Value) (w' : List va_E), feQ c0 tx tn tl (.inl r) w' → w.length ≤ w'.length → AW G F kc ks w' pc loc (r.toList ++ rest) Q := by
  rintro r w' (⟨h, st2, pn2, hs, hp, e, rfl⟩ | ⟨h, p2, k2, l2, lt2, st2, pn2, hk, hl, hp, e, rfl⟩) -
  · cases e; exact h1 h st2 pn2 hs hp
  · cases e; exact h2 h p2 k2 l2 lt2 st2 pn2 hk hl hp
theorem aw_tF {w : List va_E} {Q : aw_R → List va_E → Prop} {c0 : va_E} {tx : Nat → Int32} {tn : Nat} {tl : List va_E} : ∀ (E : String) (w' : List va_E), feQ c0 tx tn tl (.inr E) w' → w.length ≤ w'.length → Q (.inr E) w' := by
  rintro E w' (⟨h, st2, pn2, hs, hp, e, rfl⟩ | ⟨h, p2, k2, l2, lt2, st2, pn2, hk, hl, hp, e, rfl⟩) - <;> cases e
set_option maxRecDepth 100000 in
set_option maxHeartbeats 4000000 in
theorem ax_error {G : aw_G} {vn an : Nat} {tx : Nat → Int32} {tn p k l : Nat} {lt : Int32} {st pn : Nat → Int32} {tl : List va_E} (htn : tn ≤ 40) (hch : chOK tx tn) : AM G fX7_error [.ref 0] (sW (c0W vn an) tx tn p k l lt st pn tl) (feQ (c0W vn an) tx tn tl) := by
  refine AM_of (by decide) rfl rfl (Nat.le_of_ble_eq_true rfl) ?_
  show AW G fX7_error 0 0 (sW (c0W vn an) tx tn p k l lt st pn tl) 0 [some (.ref 0)] [] _
  refine r_aload_n (pc := 0) dX7_error_0 rfl rfl ?_
  refine g_X7_10 (pc := 1) rfl rfl rfl dX7_error_1 ?_
  refine s_X7_58 (pc := 4) (kc' := 0) (ks' := 0) rfl rfl (ac_firstError htn hch) rfl (Nat.le_of_ble_eq_true rfl) (Nat.le_of_ble_eq_true rfl) (Nat.le_of_ble_eq_true rfl) (Nat.le_of_ble_eq_true rfl) (by exact (Nat.le_of_ble_eq_true rfl)) rfl (List.forall_mem_cons.mpr ⟨rfl, fun _ h => nomatch h⟩) rfl dX7_error_4 aw_tF (aw_kF (fun h st2 pn2 hY hX => ?_) (fun h p2 k2 l2 lt2 st2 pn2 hk2 hl2 hp2 => ?_))
  · refine r_iret (pc := 7) rfl rfl dX7_error_7 ?_
    exact Or.inl ⟨h, st2, pn2, hY, hX, rfl, rfl⟩
  · refine r_iret (pc := 7) rfl rfl dX7_error_7 ?_
    exact Or.inr ⟨h, p2, k2, l2, lt2, st2, pn2, hk2, hl2, hp2, rfl, rfl⟩

end S6
