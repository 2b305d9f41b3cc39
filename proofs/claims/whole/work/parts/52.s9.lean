/-! ===== the class: what a formula is read for ===== -/
section S9
set_option maxRecDepth 100000 in
set_option maxHeartbeats 4000000 in
theorem ac5_at {G : aw_G} {w : List va_E} {r q : Nat} {ty : Nat → Int32} (hw1 : w[r]? = some (.inr (4, [.ref q]))) (hw2 : w[q]? = some (.inl (0, 6, .inl ty))) {j : Nat} (hj : j < 6) : AM G fX5_at [.ref r, .int (nI j)] w (qx (.inl (some (.int (ty j)))) w) := by
  refine AM_of (by decide) rfl rfl (Nat.le_of_ble_eq_true rfl) ?_
  show AW G fX5_at 0 0 w 0 [some (.ref r), some (.int (nI j))] [] _
  refine r_iload_n (pc := 0) dX5_at_0 rfl rfl ?_
  refine r_if_lt (pc := 1) (tgt := 22) dX5_at_1 (by decide) (fun h => absurd h (nI_pos (by omega))) (fun h1 => ?_)
  refine r_iload_n (pc := 4) dX5_at_4 rfl rfl ?_
  refine r_aload_n (pc := 5) dX5_at_5 rfl rfl ?_
  refine g_X5_9 (pc := 6) rfl hw1 rfl dX5_at_6 ?_
  refine r_alen (pc := 9) (t := 0) (v := nI 6) (fun _ => rfl) hw2 rfl dX5_at_9 ?_
  refine r_icmp_ge (pc := 10) (tgt := 22) dX5_at_10 (by decide) (fun h => absurd h (nI_ge9 hj (by decide))) (fun h10 => ?_)
  refine r_aload_n (pc := 13) dX5_at_13 rfl rfl ?_
  refine g_X5_9 (pc := 14) rfl hw1 rfl dX5_at_14 ?_
  refine r_iload_n (pc := 17) dX5_at_17 rfl rfl ?_
  refine r_iaload (pc := 18) hw2 (vp_in_nI hj (Nat.le_of_ble_eq_true rfl)) dX5_at_18 ?_
  rw [nI_clamp (by omega)]
  refine r_goto (pc := 19) (tgt := 23) dX5_at_19 (by decide) ?_
  refine r_iret (pc := 23) rfl rfl dX5_at_23 ?_
  exact ⟨rfl, rfl⟩

set_option maxRecDepth 100000 in
set_option maxHeartbeats 4000000 in
theorem ac5_ofNumber {G : aw_G} {w : List va_E} {r : Nat} (x : Int32) : AM G fX5_ofNumber [.ref r, .int x] w (qx (.inl (some (.int 1))) w) := by
  refine AM_of (by decide) rfl rfl (Nat.le_of_ble_eq_true rfl) ?_
  show AW G fX5_ofNumber 0 0 w 0 [some (.ref r), some (.int x)] [] _
  refine r_iconst (pc := 0) (v := 1) dX5_ofNumber_0 (by decide) ?_
  refine r_iret (pc := 1) rfl rfl dX5_ofNumber_1 ?_
  exact ⟨rfl, rfl⟩

set_option maxRecDepth 100000 in
set_option maxHeartbeats 4000000 in
theorem ac6_at {G : aw_G} {w : List va_E} {r q : Nat} {kn : Int32} {vs : Nat → Int32} (hw1 : w[r]? = some (.inr (5, [.ref q, .int kn]))) (hw2 : w[q]? = some (.inl (0, 6, .inl vs))) {j : Nat} (hj : j < 6) : AM G fX6_at [.ref r, .int (nI j)] w (qx (.inl (some (.int (vs j)))) w) := by
  refine AM_of (by decide) rfl rfl (Nat.le_of_ble_eq_true rfl) ?_
  show AW G fX6_at 0 0 w 0 [some (.ref r), some (.int (nI j))] [] _
  refine r_iload_n (pc := 0) dX6_at_0 rfl rfl ?_
  refine r_if_lt (pc := 1) (tgt := 22) dX6_at_1 (by decide) (fun h => absurd h (nI_pos (by omega))) (fun h1 => ?_)
  refine r_iload_n (pc := 4) dX6_at_4 rfl rfl ?_
  refine r_aload_n (pc := 5) dX6_at_5 rfl rfl ?_
  refine g_X6_9 (pc := 6) rfl hw1 rfl dX6_at_6 ?_
  refine r_alen (pc := 9) (t := 0) (v := nI 6) (fun _ => rfl) hw2 rfl dX6_at_9 ?_
  refine r_icmp_ge (pc := 10) (tgt := 22) dX6_at_10 (by decide) (fun h => absurd h (nI_ge9 hj (by decide))) (fun h10 => ?_)
  refine r_aload_n (pc := 13) dX6_at_13 rfl rfl ?_
  refine g_X6_9 (pc := 14) rfl hw1 rfl dX6_at_14 ?_
  refine r_iload_n (pc := 17) dX6_at_17 rfl rfl ?_
  refine r_iaload (pc := 18) hw2 (vp_in_nI hj (Nat.le_of_ble_eq_true rfl)) dX6_at_18 ?_
  rw [nI_clamp (by omega)]
  refine r_goto (pc := 19) (tgt := 23) dX6_at_19 (by decide) ?_
  refine r_iret (pc := 23) rfl rfl dX6_at_23 ?_
  exact ⟨rfl, rfl⟩

set_option maxRecDepth 100000 in
set_option maxHeartbeats 4000000 in
theorem ac6_ofNumber {G : aw_G} {w : List va_E} {r : Nat} (x : Int32) : AM G fX6_ofNumber [.ref r, .int x] w (qx (.inl (some (.int x))) w) := by
  refine AM_of (by decide) rfl rfl (Nat.le_of_ble_eq_true rfl) ?_
  show AW G fX6_ofNumber 0 0 w 0 [some (.ref r), some (.int x)] [] _
  refine r_iload_n (pc := 0) dX6_ofNumber_0 rfl rfl ?_
  refine r_iret (pc := 1) rfl rfl dX6_ofNumber_1 ?_
  exact ⟨rfl, rfl⟩

set_option maxRecDepth 100000 in
set_option maxHeartbeats 4000000 in
theorem ac5_ofField {G : aw_G} {w : List va_E} {r q : Nat} {ty : Nat → Int32} (hw1 : w[r]? = some (.inr (4, [.ref q]))) (hw2 : w[q]? = some (.inl (0, 6, .inl ty))) {j : Nat} (hj : j < 6) : AM G fX5_ofField [.ref r, .int (nI j)] w (qx (.inl (some (.int (tyL ty j)))) w) := by
  refine AM_of (by decide) rfl rfl (Nat.le_of_ble_eq_true rfl) ?_
  show AW G fX5_ofField 0 0 w 0 [some (.ref r), some (.int (nI j)), none] [] _
  refine r_aload_n (pc := 0) dX5_ofField_0 rfl rfl ?_
  refine r_iload_n (pc := 1) dX5_ofField_1 rfl rfl ?_
  refine s_X5_23 (pc := 2) (kc' := 0) (ks' := 0) rfl rfl (ac5_at hw1 hw2 hj) hw1 (Nat.le_of_ble_eq_true rfl) (Nat.le_of_ble_eq_true rfl) (Nat.le_of_ble_eq_true rfl) (Nat.le_of_ble_eq_true rfl) (by exact (Nat.le_of_ble_eq_true rfl)) rfl (List.forall_mem_cons.mpr ⟨rfl, (List.forall_mem_cons.mpr ⟨rfl, fun _ h => nomatch h⟩)⟩) rfl dX5_ofField_2 aw_kt (aw_kq ?_)
  refine r_istore_n (pc := 5) dX5_ofField_5 rfl (Nat.le_of_ble_eq_true rfl) rfl ?_
  refine r_iload_n (pc := 6) dX5_ofField_6 rfl rfl ?_
  refine r_if_ne (pc := 7) (tgt := 14) dX5_ofField_7 (by decide) (fun h7 => ?_) (fun h7 => ?_)
  · refine r_iload_n (pc := 14) dX5_ofField_14 rfl rfl ?_
    refine r_iret (pc := 15) rfl rfl dX5_ofField_15 ?_
    exact ⟨by unfold tyL; rw [if_neg h7], rfl⟩
  · refine r_iconst (pc := 10) (v := -1) dX5_ofField_10 (by decide) ?_
    refine r_goto (pc := 11) (tgt := 15) dX5_ofField_11 (by decide) ?_
    refine r_iret (pc := 15) rfl rfl dX5_ofField_15 ?_
    exact ⟨by unfold tyL; rw [if_pos h7], rfl⟩

set_option maxRecDepth 100000 in
set_option maxHeartbeats 4000000 in
theorem ac6_ofField {G : aw_G} {w : List va_E} {r q : Nat} {kn : Int32} {vs : Nat → Int32} (hw1 : w[r]? = some (.inr (5, [.ref q, .int kn]))) (hw2 : w[q]? = some (.inl (0, 6, .inl vs))) {j : Nat} (hj : j < 6) : AM G fX6_ofField [.ref r, .int (nI j)] w (qx (.inl (some (.int (vs j)))) w) := by
  refine AM_of (by decide) rfl rfl (Nat.le_of_ble_eq_true rfl) ?_
  show AW G fX6_ofField 0 0 w 0 [some (.ref r), some (.int (nI j))] [] _
  refine r_aload_n (pc := 0) dX6_ofField_0 rfl rfl ?_
  refine r_iload_n (pc := 1) dX6_ofField_1 rfl rfl ?_
  refine s_X6_23 (pc := 2) (kc' := 0) (ks' := 0) rfl rfl (ac6_at hw1 hw2 hj) hw1 (Nat.le_of_ble_eq_true rfl) (Nat.le_of_ble_eq_true rfl) (Nat.le_of_ble_eq_true rfl) (Nat.le_of_ble_eq_true rfl) (by exact (Nat.le_of_ble_eq_true rfl)) rfl (List.forall_mem_cons.mpr ⟨rfl, (List.forall_mem_cons.mpr ⟨rfl, fun _ h => nomatch h⟩)⟩) rfl dX6_ofField_2 aw_kt (aw_kq ?_)
  refine r_iret (pc := 5) rfl rfl dX6_ofField_5 ?_
  exact ⟨rfl, rfl⟩

set_option maxRecDepth 100000 in
set_option maxHeartbeats 4000000 in
theorem ac5_ofNot {G : aw_G} {w : List va_E} {r : Nat} (x : Int32) : AM G fX5_ofNot [.ref r, .int x] w (qx (.inl (some (.int (tyB x)))) w) := by
  refine AM_of (by decide) rfl rfl (Nat.le_of_ble_eq_true rfl) ?_
  show AW G fX5_ofNot 0 0 w 0 [some (.ref r), some (.int x)] [] _
  refine r_iload_n (pc := 0) dX5_ofNot_0 rfl rfl ?_
  refine r_iconst (pc := 1) (v := 2) dX5_ofNot_1 (by decide) ?_
  refine r_icmp_ne (pc := 2) (tgt := 9) dX5_ofNot_2 (by decide) (fun h2 => ?_) (fun h2 => ?_)
  · refine r_iconst (pc := 9) (v := -1) dX5_ofNot_9 (by decide) ?_
    refine r_iret (pc := 10) rfl rfl dX5_ofNot_10 ?_
    exact ⟨by unfold tyB; rw [if_neg h2], rfl⟩
  · refine r_iconst (pc := 5) (v := 2) dX5_ofNot_5 (by decide) ?_
    refine r_goto (pc := 6) (tgt := 10) dX5_ofNot_6 (by decide) ?_
    refine r_iret (pc := 10) rfl rfl dX5_ofNot_10 ?_
    exact ⟨by unfold tyB; rw [if_pos h2], rfl⟩

set_option maxRecDepth 100000 in
set_option maxHeartbeats 4000000 in
theorem ac6_ofNot {G : aw_G} {w : List va_E} {r : Nat} (x : Int32) : AM G fX6_ofNot [.ref r, .int x] w (qx (.inl (some (.int (if x = 0 then 1 else 0)))) w) := by
  refine AM_of (by decide) rfl rfl (Nat.le_of_ble_eq_true rfl) ?_
  show AW G fX6_ofNot 0 0 w 0 [some (.ref r), some (.int x)] [] _
  refine r_iload_n (pc := 0) dX6_ofNot_0 rfl rfl ?_
  refine r_if_ne (pc := 1) (tgt := 8) dX6_ofNot_1 (by decide) (fun h1 => ?_) (fun h1 => ?_)
  · refine r_iconst (pc := 8) (v := 0) dX6_ofNot_8 (by decide) ?_
    refine r_iret (pc := 9) rfl rfl dX6_ofNot_9 ?_
    exact ⟨by rw [if_neg h1], rfl⟩
  · refine r_iconst (pc := 4) (v := 1) dX6_ofNot_4 (by decide) ?_
    refine r_goto (pc := 5) (tgt := 9) dX6_ofNot_5 (by decide) ?_
    refine r_iret (pc := 9) rfl rfl dX6_ofNot_9 ?_
    exact ⟨by rw [if_pos h1], rfl⟩

def alk (a b : Int32) : Bool := decide ((a = b ∧ a ≠ -1) ∨ (a = 1 ∧ b = 3) ∨ (a = 3 ∧ b = 1))
set_option maxRecDepth 100000 in
set_option maxHeartbeats 4000000 in
theorem ac5_areAlike {G : aw_G} {w : List va_E} (x y : Int32) : AM G fX5_areAlike [.int x, .int y] w (qx (.inl (some (.int (bi (alk x y))))) w) := by
  refine AM_of (by decide) rfl rfl (Nat.le_of_ble_eq_true rfl) ?_
  show AW G fX5_areAlike 0 0 w 0 [some (.int x), some (.int y)] [] _
  refine r_iload_n (pc := 0) dX5_areAlike_0 rfl rfl ?_
  refine r_iload_n (pc := 1) dX5_areAlike_1 rfl rfl ?_
  refine r_icmp_ne (pc := 2) (tgt := 16) dX5_areAlike_2 (by decide) (fun h2 => ?_) (fun h2 => ?_)
  · refine r_iload_n (pc := 16) dX5_areAlike_16 rfl rfl ?_
    refine r_iconst (pc := 17) (v := 1) dX5_areAlike_17 (by decide) ?_
    refine r_icmp_ne (pc := 18) (tgt := 26) dX5_areAlike_18 (by decide) (fun h18 => ?_) (fun h18 => ?_)
    · refine r_iload_n (pc := 26) dX5_areAlike_26 rfl rfl ?_
      refine r_iconst (pc := 27) (v := 3) dX5_areAlike_27 (by decide) ?_
      refine r_icmp_ne (pc := 28) (tgt := 40) dX5_areAlike_28 (by decide) (fun h28 => ?_) (fun h28 => ?_)
      · refine r_iconst (pc := 40) (v := 0) dX5_areAlike_40 (by decide) ?_
        refine r_iret (pc := 41) rfl rfl dX5_areAlike_41 ?_
        refine ⟨?_, rfl⟩
        simp_all [bi, alk]
      · refine r_iload_n (pc := 31) dX5_areAlike_31 rfl rfl ?_
        refine r_iconst (pc := 32) (v := 1) dX5_areAlike_32 (by decide) ?_
        refine r_icmp_ne (pc := 33) (tgt := 40) dX5_areAlike_33 (by decide) (fun h33 => ?_) (fun h33 => ?_)
        · refine r_iconst (pc := 40) (v := 0) dX5_areAlike_40 (by decide) ?_
          refine r_iret (pc := 41) rfl rfl dX5_areAlike_41 ?_
          refine ⟨?_, rfl⟩
          simp_all [bi, alk]
        · refine r_iconst (pc := 36) (v := 1) dX5_areAlike_36 (by decide) ?_
          refine r_goto (pc := 37) (tgt := 41) dX5_areAlike_37 (by decide) ?_
          refine r_iret (pc := 41) rfl rfl dX5_areAlike_41 ?_
          refine ⟨?_, rfl⟩
          simp_all [bi, alk]
    · refine r_iload_n (pc := 21) dX5_areAlike_21 rfl rfl ?_
      refine r_iconst (pc := 22) (v := 3) dX5_areAlike_22 (by decide) ?_
      refine r_icmp_eq (pc := 23) (tgt := 36) dX5_areAlike_23 (by decide) (fun h23 => ?_) (fun h23 => ?_)
      · refine r_iconst (pc := 36) (v := 1) dX5_areAlike_36 (by decide) ?_
        refine r_goto (pc := 37) (tgt := 41) dX5_areAlike_37 (by decide) ?_
        refine r_iret (pc := 41) rfl rfl dX5_areAlike_41 ?_
        refine ⟨?_, rfl⟩
        simp_all [bi, alk]
      · refine r_iload_n (pc := 26) dX5_areAlike_26 rfl rfl ?_
        refine r_iconst (pc := 27) (v := 3) dX5_areAlike_27 (by decide) ?_
        refine r_icmp_ne (pc := 28) (tgt := 40) dX5_areAlike_28 (by decide) (fun h28 => ?_) (fun h28 => ?_)
        · refine r_iconst (pc := 40) (v := 0) dX5_areAlike_40 (by decide) ?_
          refine r_iret (pc := 41) rfl rfl dX5_areAlike_41 ?_
          refine ⟨?_, rfl⟩
          simp_all [bi, alk]
        · refine r_iload_n (pc := 31) dX5_areAlike_31 rfl rfl ?_
          refine r_iconst (pc := 32) (v := 1) dX5_areAlike_32 (by decide) ?_
          refine r_icmp_ne (pc := 33) (tgt := 40) dX5_areAlike_33 (by decide) (fun h33 => ?_) (fun h33 => ?_)
          · refine r_iconst (pc := 40) (v := 0) dX5_areAlike_40 (by decide) ?_
            refine r_iret (pc := 41) rfl rfl dX5_areAlike_41 ?_
            refine ⟨?_, rfl⟩
            simp_all [bi, alk]
          · refine r_iconst (pc := 36) (v := 1) dX5_areAlike_36 (by decide) ?_
            refine r_goto (pc := 37) (tgt := 41) dX5_areAlike_37 (by decide) ?_
            refine r_iret (pc := 41) rfl rfl dX5_areAlike_41 ?_
            refine ⟨?_, rfl⟩
            simp_all [bi, alk]
  · refine r_iload_n (pc := 5) dX5_areAlike_5 rfl rfl ?_
    refine r_iconst (pc := 6) (v := -1) dX5_areAlike_6 (by decide) ?_
    refine r_icmp_eq (pc := 7) (tgt := 14) dX5_areAlike_7 (by decide) (fun h7 => ?_) (fun h7 => ?_)
    · refine r_iconst (pc := 14) (v := 0) dX5_areAlike_14 (by decide) ?_
      refine r_iret (pc := 15) rfl rfl dX5_areAlike_15 ?_
      refine ⟨?_, rfl⟩
      simp_all [bi, alk]
    · refine r_iconst (pc := 10) (v := 1) dX5_areAlike_10 (by decide) ?_
      refine r_goto (pc := 11) (tgt := 15) dX5_areAlike_11 (by decide) ?_
      refine r_iret (pc := 15) rfl rfl dX5_areAlike_15 ?_
      refine ⟨?_, rfl⟩
      simp_all [bi, alk]

theorem tyF_61 (a b : Int32) : tyF 61 a b = if alk a b = true then 2 else -1 := by
  have e : ((a = b ∨ (a = 1 ∧ b = 3) ∨ (a = 3 ∧ b = 1)) ∧ a ≠ -1) ↔ alk a b = true := by
    refine Iff.trans ?_ (decide_eq_true_iff (p := (a = b ∧ a ≠ -1) ∨ (a = 1 ∧ b = 3) ∨ (a = 3 ∧ b = 1))).symm
    constructor
    · rintro ⟨h1 | h1, h2⟩
      · exact Or.inl ⟨h1, h2⟩
      · exact Or.inr h1
    · rintro (⟨h1, h2⟩ | h1)
      · exact ⟨Or.inl h1, h2⟩
      · refine ⟨Or.inr h1, ?_⟩
        rcases h1 with ⟨rfl, -⟩ | ⟨rfl, -⟩ <;> decide
  unfold tyF
  rw [if_pos rfl]
  by_cases h : alk a b = true
  · rw [if_pos h, if_pos (e.mpr h)]
  · rw [if_neg h, if_neg (fun z => h (e.mp z))]
set_option maxRecDepth 100000 in
set_option maxHeartbeats 4000000 in
theorem ac5_ofSign {G : aw_G} {w : List va_E} {r : Nat} {s : Int32} (hs : 0 < rkN s) (a b : Int32) : AM G fX5_ofSign [.ref r, .int s, .int a, .int b] w (qx (.inl (some (.int (tyF s a b)))) w) := by
  refine AM_of (by decide) rfl rfl (Nat.le_of_ble_eq_true rfl) ?_
  show AW G fX5_ofSign 0 0 w 0 [some (.ref r), some (.int s), some (.int a), some (.int b)] [] _
  rcases rkN_pos hs with rfl | rfl | rfl | rfl | rfl | rfl | rfl | rfl
  · refine r_iload_n (pc := 0) dX5_ofSign_0 rfl rfl ?_
    refine r_lookup (pc := 1) (off := 59) (tgt := 60) dX5_ofSign_1 (by decide) (by decide) (by decide) ?_
    refine r_iload_n (pc := 60) dX5_ofSign_60 rfl rfl ?_
    refine r_iconst (pc := 61) (v := 1) dX5_ofSign_61 (by decide) ?_
    refine r_icmp_ne (pc := 62) (tgt := 74) dX5_ofSign_62 (by decide) (fun h62 => ?_) (fun h62 => ?_)
    · refine r_iconst (pc := 74) (v := -1) dX5_ofSign_74 (by decide) ?_
      refine r_iret (pc := 75) rfl rfl dX5_ofSign_75 ?_
      refine ⟨?_, rfl⟩
      simp_all [tyF, bi, alk]
    · refine r_iload_n (pc := 65) dX5_ofSign_65 rfl rfl ?_
      refine r_iconst (pc := 66) (v := 1) dX5_ofSign_66 (by decide) ?_
      refine r_icmp_ne (pc := 67) (tgt := 74) dX5_ofSign_67 (by decide) (fun h67 => ?_) (fun h67 => ?_)
      · refine r_iconst (pc := 74) (v := -1) dX5_ofSign_74 (by decide) ?_
        refine r_iret (pc := 75) rfl rfl dX5_ofSign_75 ?_
        refine ⟨?_, rfl⟩
        simp_all [tyF, bi, alk]
      · refine r_iconst (pc := 70) (v := 1) dX5_ofSign_70 (by decide) ?_
        refine r_goto (pc := 71) (tgt := 75) dX5_ofSign_71 (by decide) ?_
        refine r_iret (pc := 75) rfl rfl dX5_ofSign_75 ?_
        refine ⟨?_, rfl⟩
        simp_all [tyF, bi, alk]
  · refine r_iload_n (pc := 0) dX5_ofSign_0 rfl rfl ?_
    refine r_lookup (pc := 1) (off := 59) (tgt := 60) dX5_ofSign_1 (by decide) (by decide) (by decide) ?_
    refine r_iload_n (pc := 60) dX5_ofSign_60 rfl rfl ?_
    refine r_iconst (pc := 61) (v := 1) dX5_ofSign_61 (by decide) ?_
    refine r_icmp_ne (pc := 62) (tgt := 74) dX5_ofSign_62 (by decide) (fun h62 => ?_) (fun h62 => ?_)
    · refine r_iconst (pc := 74) (v := -1) dX5_ofSign_74 (by decide) ?_
      refine r_iret (pc := 75) rfl rfl dX5_ofSign_75 ?_
      refine ⟨?_, rfl⟩
      simp_all [tyF, bi, alk]
    · refine r_iload_n (pc := 65) dX5_ofSign_65 rfl rfl ?_
      refine r_iconst (pc := 66) (v := 1) dX5_ofSign_66 (by decide) ?_
      refine r_icmp_ne (pc := 67) (tgt := 74) dX5_ofSign_67 (by decide) (fun h67 => ?_) (fun h67 => ?_)
      · refine r_iconst (pc := 74) (v := -1) dX5_ofSign_74 (by decide) ?_
        refine r_iret (pc := 75) rfl rfl dX5_ofSign_75 ?_
        refine ⟨?_, rfl⟩
        simp_all [tyF, bi, alk]
      · refine r_iconst (pc := 70) (v := 1) dX5_ofSign_70 (by decide) ?_
        refine r_goto (pc := 71) (tgt := 75) dX5_ofSign_71 (by decide) ?_
        refine r_iret (pc := 75) rfl rfl dX5_ofSign_75 ?_
        refine ⟨?_, rfl⟩
        simp_all [tyF, bi, alk]
  · refine r_iload_n (pc := 0) dX5_ofSign_0 rfl rfl ?_
    refine r_lookup (pc := 1) (off := 59) (tgt := 60) dX5_ofSign_1 (by decide) (by decide) (by decide) ?_
    refine r_iload_n (pc := 60) dX5_ofSign_60 rfl rfl ?_
    refine r_iconst (pc := 61) (v := 1) dX5_ofSign_61 (by decide) ?_
    refine r_icmp_ne (pc := 62) (tgt := 74) dX5_ofSign_62 (by decide) (fun h62 => ?_) (fun h62 => ?_)
    · refine r_iconst (pc := 74) (v := -1) dX5_ofSign_74 (by decide) ?_
      refine r_iret (pc := 75) rfl rfl dX5_ofSign_75 ?_
      refine ⟨?_, rfl⟩
      simp_all [tyF, bi, alk]
    · refine r_iload_n (pc := 65) dX5_ofSign_65 rfl rfl ?_
      refine r_iconst (pc := 66) (v := 1) dX5_ofSign_66 (by decide) ?_
      refine r_icmp_ne (pc := 67) (tgt := 74) dX5_ofSign_67 (by decide) (fun h67 => ?_) (fun h67 => ?_)
      · refine r_iconst (pc := 74) (v := -1) dX5_ofSign_74 (by decide) ?_
        refine r_iret (pc := 75) rfl rfl dX5_ofSign_75 ?_
        refine ⟨?_, rfl⟩
        simp_all [tyF, bi, alk]
      · refine r_iconst (pc := 70) (v := 1) dX5_ofSign_70 (by decide) ?_
        refine r_goto (pc := 71) (tgt := 75) dX5_ofSign_71 (by decide) ?_
        refine r_iret (pc := 75) rfl rfl dX5_ofSign_75 ?_
        refine ⟨?_, rfl⟩
        simp_all [tyF, bi, alk]
  · refine r_iload_n (pc := 0) dX5_ofSign_0 rfl rfl ?_
    refine r_lookup (pc := 1) (off := 75) (tgt := 76) dX5_ofSign_1 (by decide) (by decide) (by decide) ?_
    refine r_iload_n (pc := 76) dX5_ofSign_76 rfl rfl ?_
    refine r_iconst (pc := 77) (v := 1) dX5_ofSign_77 (by decide) ?_
    refine r_icmp_ne (pc := 78) (tgt := 90) dX5_ofSign_78 (by decide) (fun h78 => ?_) (fun h78 => ?_)
    · refine r_iconst (pc := 90) (v := -1) dX5_ofSign_90 (by decide) ?_
      refine r_iret (pc := 91) rfl rfl dX5_ofSign_91 ?_
      refine ⟨?_, rfl⟩
      simp_all [tyF, bi, alk]
    · refine r_iload_n (pc := 81) dX5_ofSign_81 rfl rfl ?_
      refine r_iconst (pc := 82) (v := 1) dX5_ofSign_82 (by decide) ?_
      refine r_icmp_ne (pc := 83) (tgt := 90) dX5_ofSign_83 (by decide) (fun h83 => ?_) (fun h83 => ?_)
      · refine r_iconst (pc := 90) (v := -1) dX5_ofSign_90 (by decide) ?_
        refine r_iret (pc := 91) rfl rfl dX5_ofSign_91 ?_
        refine ⟨?_, rfl⟩
        simp_all [tyF, bi, alk]
      · refine r_iconst (pc := 86) (v := 2) dX5_ofSign_86 (by decide) ?_
        refine r_goto (pc := 87) (tgt := 91) dX5_ofSign_87 (by decide) ?_
        refine r_iret (pc := 91) rfl rfl dX5_ofSign_91 ?_
        refine ⟨?_, rfl⟩
        simp_all [tyF, bi, alk]
  · refine r_iload_n (pc := 0) dX5_ofSign_0 rfl rfl ?_
    refine r_lookup (pc := 1) (off := 91) (tgt := 92) dX5_ofSign_1 (by decide) (by decide) (by decide) ?_
    refine r_iload_n (pc := 92) dX5_ofSign_92 rfl rfl ?_
    refine r_iload_n (pc := 93) dX5_ofSign_93 rfl rfl ?_
    refine s_X5_27 (pc := 94) (kc' := 0) (ks' := 0) rfl rfl (ac5_areAlike _ _)  (Nat.le_of_ble_eq_true rfl) (Nat.le_of_ble_eq_true rfl) (Nat.le_of_ble_eq_true rfl) (Nat.le_of_ble_eq_true rfl) (by exact (Nat.le_of_ble_eq_true rfl)) rfl (List.forall_mem_cons.mpr ⟨rfl, (List.forall_mem_cons.mpr ⟨rfl, fun _ h => nomatch h⟩)⟩) rfl dX5_ofSign_94 aw_kt (aw_kq ?_)
    refine r_if_eq (pc := 97) (tgt := 104) dX5_ofSign_97 (by decide) (fun h97 => ?_) (fun h97 => ?_)
    · refine r_iconst (pc := 104) (v := -1) dX5_ofSign_104 (by decide) ?_
      refine r_iret (pc := 105) rfl rfl dX5_ofSign_105 ?_
      exact ⟨by rw [tyF_61, if_neg (by rw [bi_eq.mp h97]; decide)], rfl⟩
    · refine r_iconst (pc := 100) (v := 2) dX5_ofSign_100 (by decide) ?_
      refine r_goto (pc := 101) (tgt := 105) dX5_ofSign_101 (by decide) ?_
      refine r_iret (pc := 105) rfl rfl dX5_ofSign_105 ?_
      exact ⟨by rw [tyF_61, if_pos (bi_ne.mp h97)], rfl⟩
  · refine r_iload_n (pc := 0) dX5_ofSign_0 rfl rfl ?_
    refine r_lookup (pc := 1) (off := 75) (tgt := 76) dX5_ofSign_1 (by decide) (by decide) (by decide) ?_
    refine r_iload_n (pc := 76) dX5_ofSign_76 rfl rfl ?_
    refine r_iconst (pc := 77) (v := 1) dX5_ofSign_77 (by decide) ?_
    refine r_icmp_ne (pc := 78) (tgt := 90) dX5_ofSign_78 (by decide) (fun h78 => ?_) (fun h78 => ?_)
    · refine r_iconst (pc := 90) (v := -1) dX5_ofSign_90 (by decide) ?_
      refine r_iret (pc := 91) rfl rfl dX5_ofSign_91 ?_
      refine ⟨?_, rfl⟩
      simp_all [tyF, bi, alk]
    · refine r_iload_n (pc := 81) dX5_ofSign_81 rfl rfl ?_
      refine r_iconst (pc := 82) (v := 1) dX5_ofSign_82 (by decide) ?_
      refine r_icmp_ne (pc := 83) (tgt := 90) dX5_ofSign_83 (by decide) (fun h83 => ?_) (fun h83 => ?_)
      · refine r_iconst (pc := 90) (v := -1) dX5_ofSign_90 (by decide) ?_
        refine r_iret (pc := 91) rfl rfl dX5_ofSign_91 ?_
        refine ⟨?_, rfl⟩
        simp_all [tyF, bi, alk]
      · refine r_iconst (pc := 86) (v := 2) dX5_ofSign_86 (by decide) ?_
        refine r_goto (pc := 87) (tgt := 91) dX5_ofSign_87 (by decide) ?_
        refine r_iret (pc := 91) rfl rfl dX5_ofSign_91 ?_
        refine ⟨?_, rfl⟩
        simp_all [tyF, bi, alk]
  · refine r_iload_n (pc := 0) dX5_ofSign_0 rfl rfl ?_
    refine r_lookup (pc := 1) (off := 105) (tgt := 106) dX5_ofSign_1 (by decide) (by decide) (by decide) ?_
    refine r_iload_n (pc := 106) dX5_ofSign_106 rfl rfl ?_
    refine r_iconst (pc := 107) (v := 2) dX5_ofSign_107 (by decide) ?_
    refine r_icmp_ne (pc := 108) (tgt := 120) dX5_ofSign_108 (by decide) (fun h108 => ?_) (fun h108 => ?_)
    · refine r_iconst (pc := 120) (v := -1) dX5_ofSign_120 (by decide) ?_
      refine r_iret (pc := 121) rfl rfl dX5_ofSign_121 ?_
      refine ⟨?_, rfl⟩
      simp_all [tyF, bi, alk]
    · refine r_iload_n (pc := 111) dX5_ofSign_111 rfl rfl ?_
      refine r_iconst (pc := 112) (v := 2) dX5_ofSign_112 (by decide) ?_
      refine r_icmp_ne (pc := 113) (tgt := 120) dX5_ofSign_113 (by decide) (fun h113 => ?_) (fun h113 => ?_)
      · refine r_iconst (pc := 120) (v := -1) dX5_ofSign_120 (by decide) ?_
        refine r_iret (pc := 121) rfl rfl dX5_ofSign_121 ?_
        refine ⟨?_, rfl⟩
        simp_all [tyF, bi, alk]
      · refine r_iconst (pc := 116) (v := 2) dX5_ofSign_116 (by decide) ?_
        refine r_goto (pc := 117) (tgt := 121) dX5_ofSign_117 (by decide) ?_
        refine r_iret (pc := 121) rfl rfl dX5_ofSign_121 ?_
        refine ⟨?_, rfl⟩
        simp_all [tyF, bi, alk]
  · refine r_iload_n (pc := 0) dX5_ofSign_0 rfl rfl ?_
    refine r_lookup (pc := 1) (off := 105) (tgt := 106) dX5_ofSign_1 (by decide) (by decide) (by decide) ?_
    refine r_iload_n (pc := 106) dX5_ofSign_106 rfl rfl ?_
    refine r_iconst (pc := 107) (v := 2) dX5_ofSign_107 (by decide) ?_
    refine r_icmp_ne (pc := 108) (tgt := 120) dX5_ofSign_108 (by decide) (fun h108 => ?_) (fun h108 => ?_)
    · refine r_iconst (pc := 120) (v := -1) dX5_ofSign_120 (by decide) ?_
      refine r_iret (pc := 121) rfl rfl dX5_ofSign_121 ?_
      refine ⟨?_, rfl⟩
      simp_all [tyF, bi, alk]
    · refine r_iload_n (pc := 111) dX5_ofSign_111 rfl rfl ?_
      refine r_iconst (pc := 112) (v := 2) dX5_ofSign_112 (by decide) ?_
      refine r_icmp_ne (pc := 113) (tgt := 120) dX5_ofSign_113 (by decide) (fun h113 => ?_) (fun h113 => ?_)
      · refine r_iconst (pc := 120) (v := -1) dX5_ofSign_120 (by decide) ?_
        refine r_iret (pc := 121) rfl rfl dX5_ofSign_121 ?_
        refine ⟨?_, rfl⟩
        simp_all [tyF, bi, alk]
      · refine r_iconst (pc := 116) (v := 2) dX5_ofSign_116 (by decide) ?_
        refine r_goto (pc := 117) (tgt := 121) dX5_ofSign_117 (by decide) ?_
        refine r_iret (pc := 121) rfl rfl dX5_ofSign_121 ?_
        refine ⟨?_, rfl⟩
        simp_all [tyF, bi, alk]
/-- what the class makes of two values -/
def vaK (s a b : Int32) : Int32 :=
  if s = 43 then rm4 (a + b) else if s = 45 then rm4 (a - b) else if s = 42 then rm4 (a * b)
  else if s = 60 then bi (decide (a < b)) else if s = 62 then bi (decide (a > b)) else if s = 61 then bi (decide (a = b))
  else if s = 38 then a &&& b else a ||| b
set_option maxRecDepth 100000 in
set_option maxHeartbeats 4000000 in
theorem ac6_ofSign {G : aw_G} {w : List va_E} {r : Nat} {s : Int32} (hs : 0 < rkN s) (a b : Int32) : AM G fX6_ofSign [.ref r, .int s, .int a, .int b] w (qx (.inl (some (.int (vaK s a b)))) w) := by
  refine AM_of (by decide) rfl rfl (Nat.le_of_ble_eq_true rfl) ?_
  show AW G fX6_ofSign 0 0 w 0 [some (.ref r), some (.int s), some (.int a), some (.int b)] [] _
  rcases rkN_pos hs with rfl | rfl | rfl | rfl | rfl | rfl | rfl | rfl
  · refine r_iload_n (pc := 0) dX6_ofSign_0 rfl rfl ?_
    refine r_tableIn (pc := 1) (off := 131) (tgt := 132) dX6_ofSign_1 (by decide) (by decide) (by decide) (by decide) ?_
    refine r_iload_n (pc := 132) dX6_ofSign_132 rfl rfl ?_
    refine r_iload_n (pc := 133) dX6_ofSign_133 rfl rfl ?_
    refine r_imul (pc := 134) dX6_ofSign_134 ?_
    refine r_sipush (pc := 135) (v := 10000) dX6_ofSign_135 (by decide) ?_
    refine r_irem (pc := 138) dX6_ofSign_138 (by decide) ?_
    refine r_iret (pc := 139) rfl rfl dX6_ofSign_139 ?_
    exact ⟨rfl, rfl⟩
  · refine r_iload_n (pc := 0) dX6_ofSign_0 rfl rfl ?_
    refine r_tableIn (pc := 1) (off := 115) (tgt := 116) dX6_ofSign_1 (by decide) (by decide) (by decide) (by decide) ?_
    refine r_iload_n (pc := 116) dX6_ofSign_116 rfl rfl ?_
    refine r_iload_n (pc := 117) dX6_ofSign_117 rfl rfl ?_
    refine r_iadd (pc := 118) dX6_ofSign_118 ?_
    refine r_sipush (pc := 119) (v := 10000) dX6_ofSign_119 (by decide) ?_
    refine r_irem (pc := 122) dX6_ofSign_122 (by decide) ?_
    refine r_iret (pc := 123) rfl rfl dX6_ofSign_123 ?_
    exact ⟨rfl, rfl⟩
  · refine r_iload_n (pc := 0) dX6_ofSign_0 rfl rfl ?_
    refine r_tableIn (pc := 1) (off := 123) (tgt := 124) dX6_ofSign_1 (by decide) (by decide) (by decide) (by decide) ?_
    refine r_iload_n (pc := 124) dX6_ofSign_124 rfl rfl ?_
    refine r_iload_n (pc := 125) dX6_ofSign_125 rfl rfl ?_
    refine r_isub (pc := 126) dX6_ofSign_126 ?_
    refine r_sipush (pc := 127) (v := 10000) dX6_ofSign_127 (by decide) ?_
    refine r_irem (pc := 130) dX6_ofSign_130 (by decide) ?_
    refine r_iret (pc := 131) rfl rfl dX6_ofSign_131 ?_
    exact ⟨rfl, rfl⟩
  · refine r_iload_n (pc := 0) dX6_ofSign_0 rfl rfl ?_
    refine r_tableIn (pc := 1) (off := 139) (tgt := 140) dX6_ofSign_1 (by decide) (by decide) (by decide) (by decide) ?_
    refine r_iload_n (pc := 140) dX6_ofSign_140 rfl rfl ?_
    refine r_iload_n (pc := 141) dX6_ofSign_141 rfl rfl ?_
    refine r_icmp_ge (pc := 142) (tgt := 149) dX6_ofSign_142 (by decide) (fun h142 => ?_) (fun h142 => ?_)
    · refine r_iconst (pc := 149) (v := 0) dX6_ofSign_149 (by decide) ?_
      refine r_iret (pc := 150) rfl rfl dX6_ofSign_150 ?_
      refine ⟨?_, rfl⟩
      simp_all [vaK, bi]
    · refine r_iconst (pc := 145) (v := 1) dX6_ofSign_145 (by decide) ?_
      refine r_goto (pc := 146) (tgt := 150) dX6_ofSign_146 (by decide) ?_
      refine r_iret (pc := 150) rfl rfl dX6_ofSign_150 ?_
      refine ⟨?_, rfl⟩
      simp_all [vaK, bi]
  · refine r_iload_n (pc := 0) dX6_ofSign_0 rfl rfl ?_
    refine r_tableIn (pc := 1) (off := 161) (tgt := 162) dX6_ofSign_1 (by decide) (by decide) (by decide) (by decide) ?_
    refine r_iload_n (pc := 162) dX6_ofSign_162 rfl rfl ?_
    refine r_iload_n (pc := 163) dX6_ofSign_163 rfl rfl ?_
    refine r_icmp_ne (pc := 164) (tgt := 171) dX6_ofSign_164 (by decide) (fun h164 => ?_) (fun h164 => ?_)
    · refine r_iconst (pc := 171) (v := 0) dX6_ofSign_171 (by decide) ?_
      refine r_iret (pc := 172) rfl rfl dX6_ofSign_172 ?_
      refine ⟨?_, rfl⟩
      simp_all [vaK, bi]
    · refine r_iconst (pc := 167) (v := 1) dX6_ofSign_167 (by decide) ?_
      refine r_goto (pc := 168) (tgt := 172) dX6_ofSign_168 (by decide) ?_
      refine r_iret (pc := 172) rfl rfl dX6_ofSign_172 ?_
      refine ⟨?_, rfl⟩
      simp_all [vaK, bi]
  · refine r_iload_n (pc := 0) dX6_ofSign_0 rfl rfl ?_
    refine r_tableIn (pc := 1) (off := 150) (tgt := 151) dX6_ofSign_1 (by decide) (by decide) (by decide) (by decide) ?_
    refine r_iload_n (pc := 151) dX6_ofSign_151 rfl rfl ?_
    refine r_iload_n (pc := 152) dX6_ofSign_152 rfl rfl ?_
    refine r_icmp_le (pc := 153) (tgt := 160) dX6_ofSign_153 (by decide) (fun h153 => ?_) (fun h153 => ?_)
    · refine r_iconst (pc := 160) (v := 0) dX6_ofSign_160 (by decide) ?_
      refine r_iret (pc := 161) rfl rfl dX6_ofSign_161 ?_
      refine ⟨?_, rfl⟩
      simp_all [vaK, bi]
    · refine r_iconst (pc := 156) (v := 1) dX6_ofSign_156 (by decide) ?_
      refine r_goto (pc := 157) (tgt := 161) dX6_ofSign_157 (by decide) ?_
      refine r_iret (pc := 161) rfl rfl dX6_ofSign_161 ?_
      refine ⟨?_, rfl⟩
      simp_all [vaK, bi]
  · refine r_iload_n (pc := 0) dX6_ofSign_0 rfl rfl ?_
    refine r_tableIn (pc := 1) (off := 172) (tgt := 173) dX6_ofSign_1 (by decide) (by decide) (by decide) (by decide) ?_
    refine r_iload_n (pc := 173) dX6_ofSign_173 rfl rfl ?_
    refine r_iload_n (pc := 174) dX6_ofSign_174 rfl rfl ?_
    refine r_iand (pc := 175) dX6_ofSign_175 ?_
    refine r_iret (pc := 176) rfl rfl dX6_ofSign_176 ?_
    exact ⟨rfl, rfl⟩
  · refine r_iload_n (pc := 0) dX6_ofSign_0 rfl rfl ?_
    refine r_tableOut (pc := 1) (tgt := 177) dX6_ofSign_1 (by decide) (by decide) ?_
    refine r_iload_n (pc := 177) dX6_ofSign_177 rfl rfl ?_
    refine r_iload_n (pc := 178) dX6_ofSign_178 rfl rfl ?_
    refine r_ior (pc := 179) dX6_ofSign_179 ?_
    refine r_iret (pc := 180) rfl rfl dX6_ofSign_180 ?_
    exact ⟨rfl, rfl⟩
end S9
