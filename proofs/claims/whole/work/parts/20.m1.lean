/-! ===== the reference: its small methods ===== -/
section M1
set_option maxRecDepth 100000 in
set_option maxHeartbeats 4000000 in
theorem am_thrown {G : aw_G} {P T : List va_E} {sc : Nat → Int32} {ar : Nat → Nat → Int32} (hP : P.length = 12) : AM G fX8_thrown [.ref 12] (mw P sc ar T) (qx (.inl (some (.int (sc 12)))) (mw P sc ar T)) := by
  refine AM_of (by decide) rfl rfl (Nat.le_of_ble_eq_true rfl) ?_
  show AW G fX8_thrown 0 0 (mw P sc ar T) 0 [some (.ref 12)] [] _
  refine r_aload_n (pc := 0) dX8_thrown_0 rfl rfl ?_
  refine mg_66 (pc := 1) hP rfl dX8_thrown_1 ?_
  refine r_iret (pc := 4) rfl rfl dX8_thrown_4 ?_
  exact ⟨rfl, rfl⟩

set_option maxRecDepth 100000 in
set_option maxHeartbeats 4000000 in
theorem am_in {G : aw_G} {w : List va_E} (x l m : Int32) : AM G fX8_in [.int x, .int l, .int m] w (qx (.inl (some (.int (bi (decide (l ≤ x ∧ x ≤ m)))))) w) := by
  refine AM_of (by decide) rfl rfl (Nat.le_of_ble_eq_true rfl) ?_
  show AW G fX8_in 0 0 w 0 [some (.int x), some (.int l), some (.int m)] [] _
  refine r_iload_n (pc := 0) dX8_in_0 rfl rfl ?_
  refine r_iload_n (pc := 1) dX8_in_1 rfl rfl ?_
  refine r_icmp_lt (pc := 2) (tgt := 14) dX8_in_2 (by decide) (fun h2 => ?_) (fun h2 => ?_)
  · refine r_iconst (pc := 14) (v := 0) dX8_in_14 (by decide) ?_
    refine r_iret (pc := 15) rfl rfl dX8_in_15 ?_
    refine ⟨?_, rfl⟩; by_cases q : l ≤ x ∧ x ≤ m <;> simp [bi, q] <;> (simp only [Int32.lt_iff_toInt_lt, Int32.le_iff_toInt_le] at *; omega)
  · refine r_iload_n (pc := 5) dX8_in_5 rfl rfl ?_
    refine r_iload_n (pc := 6) dX8_in_6 rfl rfl ?_
    refine r_icmp_gt (pc := 7) (tgt := 14) dX8_in_7 (by decide) (fun h7 => ?_) (fun h7 => ?_)
    · refine r_iconst (pc := 14) (v := 0) dX8_in_14 (by decide) ?_
      refine r_iret (pc := 15) rfl rfl dX8_in_15 ?_
      refine ⟨?_, rfl⟩; by_cases q : l ≤ x ∧ x ≤ m <;> simp [bi, q] <;> (simp only [Int32.lt_iff_toInt_lt, Int32.le_iff_toInt_le] at *; omega)
    · refine r_iconst (pc := 10) (v := 1) dX8_in_10 (by decide) ?_
      refine r_goto (pc := 11) (tgt := 15) dX8_in_11 (by decide) ?_
      refine r_iret (pc := 15) rfl rfl dX8_in_15 ?_
      refine ⟨?_, rfl⟩; by_cases q : l ≤ x ∧ x ≤ m <;> simp [bi, q] <;> (simp only [Int32.lt_iff_toInt_lt, Int32.le_iff_toInt_le] at *; omega)

set_option maxRecDepth 100000 in
set_option maxHeartbeats 4000000 in
theorem am_isField {G : aw_G} {w : List va_E} (x : Int32) : AM G fX8_isField [.int x] w (qx (.inl (some (.int (bi (decide (0 ≤ x ∧ x ≤ 5)))))) w) := by
  refine AM_of (by decide) rfl rfl (Nat.le_of_ble_eq_true rfl) ?_
  show AW G fX8_isField 0 0 w 0 [some (.int x)] [] _
  refine r_iload_n (pc := 0) dX8_isField_0 rfl rfl ?_
  refine r_iconst (pc := 1) (v := 0) dX8_isField_1 (by decide) ?_
  refine r_iconst (pc := 2) (v := 5) dX8_isField_2 (by decide) ?_
  refine s_X8_69 (pc := 3) (kc' := 0) (ks' := 0) rfl rfl (am_in _ _ _)  (Nat.le_of_ble_eq_true rfl) (Nat.le_of_ble_eq_true rfl) (Nat.le_of_ble_eq_true rfl) (Nat.le_of_ble_eq_true rfl) (by exact (Nat.le_of_ble_eq_true rfl)) rfl (List.forall_mem_cons.mpr ⟨rfl, (List.forall_mem_cons.mpr ⟨rfl, (List.forall_mem_cons.mpr ⟨rfl, fun _ h => nomatch h⟩)⟩)⟩) rfl dX8_isField_3 aw_kt (aw_kq ?_)
  refine r_iret (pc := 6) rfl (bi_nar _) dX8_isField_6 ?_
  exact ⟨rfl, rfl⟩

set_option maxRecDepth 100000 in
set_option maxHeartbeats 4000000 in
theorem am_isFormula {G : aw_G} {w : List va_E} (x : Int32) : AM G fX8_isFormula [.int x] w (qx (.inl (some (.int (bi (decide (0 ≤ x ∧ x ≤ 9)))))) w) := by
  refine AM_of (by decide) rfl rfl (Nat.le_of_ble_eq_true rfl) ?_
  show AW G fX8_isFormula 0 0 w 0 [some (.int x)] [] _
  refine r_iload_n (pc := 0) dX8_isFormula_0 rfl rfl ?_
  refine r_iconst (pc := 1) (v := 0) dX8_isFormula_1 (by decide) ?_
  refine r_bipush (pc := 2) (v := 9) dX8_isFormula_2 (by decide) ?_
  refine s_X8_69 (pc := 4) (kc' := 0) (ks' := 0) rfl rfl (am_in _ _ _)  (Nat.le_of_ble_eq_true rfl) (Nat.le_of_ble_eq_true rfl) (Nat.le_of_ble_eq_true rfl) (Nat.le_of_ble_eq_true rfl) (by exact (Nat.le_of_ble_eq_true rfl)) rfl (List.forall_mem_cons.mpr ⟨rfl, (List.forall_mem_cons.mpr ⟨rfl, (List.forall_mem_cons.mpr ⟨rfl, fun _ h => nomatch h⟩)⟩)⟩) rfl dX8_isFormula_4 aw_kt (aw_kq ?_)
  refine r_iret (pc := 7) rfl (bi_nar _) dX8_isFormula_7 ?_
  exact ⟨rfl, rfl⟩

set_option maxRecDepth 100000 in
set_option maxHeartbeats 4000000 in
theorem am_isDigit {G : aw_G} {w : List va_E} (x : Int32) : AM G fX8_isDigit [.int x] w (qx (.inl (some (.int (bi (decide (48 ≤ x ∧ x ≤ 57)))))) w) := by
  refine AM_of (by decide) rfl rfl (Nat.le_of_ble_eq_true rfl) ?_
  show AW G fX8_isDigit 0 0 w 0 [some (.int x)] [] _
  refine r_iload_n (pc := 0) dX8_isDigit_0 rfl rfl ?_
  refine r_bipush (pc := 1) (v := 48) dX8_isDigit_1 (by decide) ?_
  refine r_bipush (pc := 3) (v := 57) dX8_isDigit_3 (by decide) ?_
  refine s_X8_69 (pc := 5) (kc' := 0) (ks' := 0) rfl rfl (am_in _ _ _)  (Nat.le_of_ble_eq_true rfl) (Nat.le_of_ble_eq_true rfl) (Nat.le_of_ble_eq_true rfl) (Nat.le_of_ble_eq_true rfl) (by exact (Nat.le_of_ble_eq_true rfl)) rfl (List.forall_mem_cons.mpr ⟨rfl, (List.forall_mem_cons.mpr ⟨rfl, (List.forall_mem_cons.mpr ⟨rfl, fun _ h => nomatch h⟩)⟩)⟩) rfl dX8_isDigit_5 aw_kt (aw_kq ?_)
  refine r_iret (pc := 8) rfl (bi_nar _) dX8_isDigit_8 ?_
  exact ⟨rfl, rfl⟩

set_option maxRecDepth 100000 in
set_option maxHeartbeats 4000000 in
theorem am_isLetter {G : aw_G} {w : List va_E} (x : Int32) : AM G fX8_isLetter [.int x] w (qx (.inl (some (.int (bi (decide (97 ≤ x ∧ x ≤ 102)))))) w) := by
  refine AM_of (by decide) rfl rfl (Nat.le_of_ble_eq_true rfl) ?_
  show AW G fX8_isLetter 0 0 w 0 [some (.int x)] [] _
  refine r_iload_n (pc := 0) dX8_isLetter_0 rfl rfl ?_
  refine r_bipush (pc := 1) (v := 97) dX8_isLetter_1 (by decide) ?_
  refine r_bipush (pc := 3) (v := 102) dX8_isLetter_3 (by decide) ?_
  refine s_X8_69 (pc := 5) (kc' := 0) (ks' := 0) rfl rfl (am_in _ _ _)  (Nat.le_of_ble_eq_true rfl) (Nat.le_of_ble_eq_true rfl) (Nat.le_of_ble_eq_true rfl) (Nat.le_of_ble_eq_true rfl) (by exact (Nat.le_of_ble_eq_true rfl)) rfl (List.forall_mem_cons.mpr ⟨rfl, (List.forall_mem_cons.mpr ⟨rfl, (List.forall_mem_cons.mpr ⟨rfl, fun _ h => nomatch h⟩)⟩)⟩) rfl dX8_isLetter_5 aw_kt (aw_kq ?_)
  refine r_iret (pc := 8) rfl (bi_nar _) dX8_isLetter_8 ?_
  exact ⟨rfl, rfl⟩

set_option maxRecDepth 100000 in
set_option maxHeartbeats 4000000 in
theorem am_isVersion {G : aw_G} {P T : List va_E} {sc : Nat → Int32} {ar : Nat → Nat → Int32} (hP : P.length = 12) (x : Int32) : AM G fX8_isVersion [.ref 12, .int x] (mw P sc ar T) (qx (.inl (some (.int (bi (decide (0 ≤ x ∧ x ≤ sc 5 - 1)))))) (mw P sc ar T)) := by
  refine AM_of (by decide) rfl rfl (Nat.le_of_ble_eq_true rfl) ?_
  show AW G fX8_isVersion 0 0 (mw P sc ar T) 0 [some (.ref 12), some (.int x)] [] _
  refine r_iload_n (pc := 0) dX8_isVersion_0 rfl rfl ?_
  refine r_iconst (pc := 1) (v := 0) dX8_isVersion_1 (by decide) ?_
  refine r_aload_n (pc := 2) dX8_isVersion_2 rfl rfl ?_
  refine mg_162 (pc := 3) hP rfl dX8_isVersion_3 ?_
  refine r_iconst (pc := 6) (v := 1) dX8_isVersion_6 (by decide) ?_
  refine r_isub (pc := 7) dX8_isVersion_7 ?_
  refine s_X8_69 (pc := 8) (kc' := 0) (ks' := 0) rfl rfl (am_in _ _ _)  (Nat.le_of_ble_eq_true rfl) (Nat.le_of_ble_eq_true rfl) (Nat.le_of_ble_eq_true rfl) (Nat.le_of_ble_eq_true rfl) (by exact (Nat.le_of_ble_eq_true rfl)) rfl (List.forall_mem_cons.mpr ⟨rfl, (List.forall_mem_cons.mpr ⟨rfl, (List.forall_mem_cons.mpr ⟨rfl, fun _ h => nomatch h⟩)⟩)⟩) rfl dX8_isVersion_8 aw_kt (aw_kq ?_)
  refine r_iret (pc := 11) rfl (bi_nar _) dX8_isVersion_11 ?_
  exact ⟨rfl, rfl⟩

set_option maxRecDepth 100000 in
set_option maxHeartbeats 4000000 in
theorem am_isAnswer {G : aw_G} {P T : List va_E} {sc : Nat → Int32} {ar : Nat → Nat → Int32} (hP : P.length = 12) (x : Int32) : AM G fX8_isAnswer [.ref 12, .int x] (mw P sc ar T) (qx (.inl (some (.int (bi (decide (0 ≤ x ∧ x ≤ sc 6 - 1)))))) (mw P sc ar T)) := by
  refine AM_of (by decide) rfl rfl (Nat.le_of_ble_eq_true rfl) ?_
  show AW G fX8_isAnswer 0 0 (mw P sc ar T) 0 [some (.ref 12), some (.int x)] [] _
  refine r_iload_n (pc := 0) dX8_isAnswer_0 rfl rfl ?_
  refine r_iconst (pc := 1) (v := 0) dX8_isAnswer_1 (by decide) ?_
  refine r_aload_n (pc := 2) dX8_isAnswer_2 rfl rfl ?_
  refine mg_165 (pc := 3) hP rfl dX8_isAnswer_3 ?_
  refine r_iconst (pc := 6) (v := 1) dX8_isAnswer_6 (by decide) ?_
  refine r_isub (pc := 7) dX8_isAnswer_7 ?_
  refine s_X8_69 (pc := 8) (kc' := 0) (ks' := 0) rfl rfl (am_in _ _ _)  (Nat.le_of_ble_eq_true rfl) (Nat.le_of_ble_eq_true rfl) (Nat.le_of_ble_eq_true rfl) (Nat.le_of_ble_eq_true rfl) (by exact (Nat.le_of_ble_eq_true rfl)) rfl (List.forall_mem_cons.mpr ⟨rfl, (List.forall_mem_cons.mpr ⟨rfl, (List.forall_mem_cons.mpr ⟨rfl, fun _ h => nomatch h⟩)⟩)⟩) rfl dX8_isAnswer_8 aw_kt (aw_kq ?_)
  refine r_iret (pc := 11) rfl (bi_nar _) dX8_isAnswer_11 ?_
  exact ⟨rfl, rfl⟩

set_option maxRecDepth 100000 in
set_option maxHeartbeats 4000000 in
theorem am_clear {G : aw_G} {P T : List va_E} {sc : Nat → Int32} {ar : Nat → Nat → Int32} (hP : P.length = 12) : AM G fX8_clear [.ref 12] (mw P sc ar T) (qx (.inl (some (.int (sc 1)))) (mw P (upd (upd sc 12 0) 1 0) ar T)) := by
  refine AM_of (by decide) rfl rfl (Nat.le_of_ble_eq_true rfl) ?_
  show AW G fX8_clear 0 0 (mw P sc ar T) 0 [some (.ref 12), none] [] _
  refine r_aload_n (pc := 0) dX8_clear_0 rfl rfl ?_
  refine r_iconst (pc := 1) (v := 0) dX8_clear_1 (by decide) ?_
  refine mp_66 (pc := 2) hP rfl dX8_clear_2 ?_
  refine r_aload_n (pc := 5) dX8_clear_5 rfl rfl ?_
  refine mg_62 (pc := 6) hP rfl dX8_clear_6 ?_
  refine r_istore_n (pc := 9) dX8_clear_9 rfl (Nat.le_of_ble_eq_true rfl) rfl ?_
  refine r_aload_n (pc := 10) dX8_clear_10 rfl rfl ?_
  refine r_iconst (pc := 11) (v := 0) dX8_clear_11 (by decide) ?_
  refine mp_62 (pc := 12) hP rfl dX8_clear_12 ?_
  refine r_iload_n (pc := 15) dX8_clear_15 rfl rfl ?_
  refine r_iret (pc := 16) rfl rfl dX8_clear_16 ?_
  exact ⟨rfl, rfl⟩

set_option maxRecDepth 100000 in
set_option maxHeartbeats 4000000 in
theorem am_versions {G : aw_G} {P T : List va_E} {sc : Nat → Int32} {ar : Nat → Nat → Int32} (hP : P.length = 12) : AM G fX8_versions [.ref 12] (mw P sc ar T) (qx (.inl (some (.int (sc 5)))) (mw P (upd sc 12 0) ar T)) := by
  refine AM_of (by decide) rfl rfl (Nat.le_of_ble_eq_true rfl) ?_
  show AW G fX8_versions 0 0 (mw P sc ar T) 0 [some (.ref 12)] [] _
  refine r_aload_n (pc := 0) dX8_versions_0 rfl rfl ?_
  refine r_iconst (pc := 1) (v := 0) dX8_versions_1 (by decide) ?_
  refine mp_66 (pc := 2) hP rfl dX8_versions_2 ?_
  refine r_aload_n (pc := 5) dX8_versions_5 rfl rfl ?_
  refine mg_162 (pc := 6) hP rfl dX8_versions_6 ?_
  refine r_iret (pc := 9) rfl rfl dX8_versions_9 ?_
  exact ⟨rfl, rfl⟩

set_option maxRecDepth 100000 in
set_option maxHeartbeats 4000000 in
theorem am_answers {G : aw_G} {P T : List va_E} {sc : Nat → Int32} {ar : Nat → Nat → Int32} (hP : P.length = 12) : AM G fX8_answers [.ref 12] (mw P sc ar T) (qx (.inl (some (.int (sc 6)))) (mw P (upd sc 12 0) ar T)) := by
  refine AM_of (by decide) rfl rfl (Nat.le_of_ble_eq_true rfl) ?_
  show AW G fX8_answers 0 0 (mw P sc ar T) 0 [some (.ref 12)] [] _
  refine r_aload_n (pc := 0) dX8_answers_0 rfl rfl ?_
  refine r_iconst (pc := 1) (v := 0) dX8_answers_1 (by decide) ?_
  refine mp_66 (pc := 2) hP rfl dX8_answers_2 ?_
  refine r_aload_n (pc := 5) dX8_answers_5 rfl rfl ?_
  refine mg_165 (pc := 6) hP rfl dX8_answers_6 ?_
  refine r_iret (pc := 9) rfl rfl dX8_answers_9 ?_
  exact ⟨rfl, rfl⟩

set_option maxRecDepth 100000 in
set_option maxHeartbeats 4000000 in
theorem am_lay {G : aw_G} {P T : List va_E} {sc : Nat → Int32} {ar : Nat → Nat → Int32} (hP : P.length = 12) (x : Int32) (j : Nat) (hj : sc 18 = nI j ∧ j < 40) : AM G fX8_lay [.ref 12, .int x] (mw P sc ar T) (qx (.inl none) (mw P (upd sc 18 (sc 18 + 1)) (va_up ar 17 (upd (ar 17) j x)) T)) := by
  refine AM_of (by decide) rfl rfl (Nat.le_of_ble_eq_true rfl) ?_
  show AW G fX8_lay 0 0 (mw P sc ar T) 0 [some (.ref 12), some (.int x)] [] _
  refine r_aload_n (pc := 0) dX8_lay_0 rfl rfl ?_
  refine mg_44 (pc := 1) hP rfl dX8_lay_1 ?_
  refine r_aload_n (pc := 4) dX8_lay_4 rfl rfl ?_
  refine mg_99 (pc := 5) hP rfl dX8_lay_5 ?_
  refine r_iload_n (pc := 8) dX8_lay_8 rfl rfl ?_
  refine msn_17 (pc := 9) (j) hP hj dX8_lay_9 ?_
  refine r_aload_n (pc := 10) dX8_lay_10 rfl rfl ?_
  refine r_dup (pc := 11) dX8_lay_11 rfl ?_
  refine mg_99 (pc := 12) hP rfl dX8_lay_12 ?_
  refine r_iconst (pc := 15) (v := 1) dX8_lay_15 (by decide) ?_
  refine r_iadd (pc := 16) dX8_lay_16 ?_
  refine mp_99 (pc := 17) hP rfl dX8_lay_17 ?_
  refine r_vret (pc := 20) rfl dX8_lay_20 ?_
  exact ⟨rfl, rfl⟩

set_option maxRecDepth 100000 in
set_option maxHeartbeats 4000000 in
theorem am_lays {G : aw_G} {P T : List va_E} {sc : Nat → Int32} {ar : Nat → Nat → Int32} (hP : P.length = 12) (x : Int32) (j : Nat) (hj : sc 24 = nI j ∧ j < 200) : AM G fX8_lays [.ref 12, .int x] (mw P sc ar T) (qx (.inl none) (mw P (upd sc 24 (sc 24 + 1)) (va_up ar 23 (upd (ar 23) j x)) T)) := by
  refine AM_of (by decide) rfl rfl (Nat.le_of_ble_eq_true rfl) ?_
  show AW G fX8_lays 0 0 (mw P sc ar T) 0 [some (.ref 12), some (.int x)] [] _
  refine r_aload_n (pc := 0) dX8_lays_0 rfl rfl ?_
  refine mg_56 (pc := 1) hP rfl dX8_lays_1 ?_
  refine r_aload_n (pc := 4) dX8_lays_4 rfl rfl ?_
  refine mg_181 (pc := 5) hP rfl dX8_lays_5 ?_
  refine r_iload_n (pc := 8) dX8_lays_8 rfl rfl ?_
  refine msn_23 (pc := 9) (j) hP hj dX8_lays_9 ?_
  refine r_aload_n (pc := 10) dX8_lays_10 rfl rfl ?_
  refine r_dup (pc := 11) dX8_lays_11 rfl ?_
  refine mg_181 (pc := 12) hP rfl dX8_lays_12 ?_
  refine r_iconst (pc := 15) (v := 1) dX8_lays_15 (by decide) ?_
  refine r_iadd (pc := 16) dX8_lays_16 ?_
  refine mp_181 (pc := 17) hP rfl dX8_lays_17 ?_
  refine r_vret (pc := 20) rfl dX8_lays_20 ?_
  exact ⟨rfl, rfl⟩

end M1
