/-! ===== the law: its methods that catch ===== -/
/-- what a method of the law's leaves: 0 and the answer in the row, or which exception it was -/
def lq (Q1 : aw_R → List va_E → Prop) (vl : Int32 → Int64) (cd : String → Int32) : aw_R → List va_E → Prop := fun r w' => (∃ (v : Int32) (w1 : List va_E) (f : Nat → Int64), Q1 (.inl (some (.int v))) w1 ∧ r = .inl (some (.int 0)) ∧ w1[30]? = some (.inl (3, 1, .inr (.inl f))) ∧ w' = w1.set 30 (.inl (3, 1, .inr (.inl (vp_updL f 0 (vl v)))))) ∨ (∃ E, Q1 (.inr E) w' ∧ r = .inl (some (.int (cd E))))
def vlI (v : Int32) : Int64 := v.toInt64
def vlB (v : Int32) : Int64 := if v = 0 then 0 else 1
def IOO : String := "java/lang/IndexOutOfBoundsException"
def IAE : String := "java/lang/IllegalArgumentException"
def ISE : String := "java/lang/IllegalStateException"
def cd1 (_ : String) : Int32 := 1
def cdT (E : String) : Int32 := if E = "java/lang/IndexOutOfBoundsException" then 1 else 2
def cdF (E : String) : Int32 := if E = "java/lang/IndexOutOfBoundsException" then 1 else if E = "java/lang/IllegalArgumentException" then 2 else 3
def cdP (E : String) : Int32 := if E = "java/lang/IndexOutOfBoundsException" then 1 else if E = "java/lang/IllegalStateException" then 2 else 3
/-- it ends with a number and the row in its place, or throws one of these -/
def lE (Es : List String) (Q1 : aw_R → List va_E → Prop) : Prop := ∀ (r : aw_R) (w' : List va_E), Q1 r w' → (∃ (v : Int32) (f : Nat → Int64), r = .inl (some (.int v)) ∧ w'[30]? = some (.inl (3, 1, .inr (.inl f)))) ∨ ∃ E ∈ Es, r = .inr E
section L1
set_option maxRecDepth 100000 in
set_option maxHeartbeats 4000000 in
theorem al_type {G : aw_G} (hN : aw_nc G) {w : List va_E} {fs : List Value} (h0 : w[0]? = some (.inr (6, fs))) {Q1 : aw_R → List va_E → Prop} {a : Int32} (hM : AM G fX7_type [.ref 0, .int a] w Q1) (hQ : lE ["java/lang/IllegalStateException"] Q1) : AM G fL_type [.ref 0, .int a, .ref 30] w (lq Q1 vlI cd1) := by
  refine AM_ofH (by decide) rfl rfl (Nat.le_of_ble_eq_true rfl) ?_
  show AW G fL_type 1 6 w 0 [some (.ref 0), some (.int a), some (.ref 30), none] [] _
  refine r_aload_n (pc := 0) dL_type_0 rfl rfl ?_
  refine r_iconst (pc := 1) (v := 0) dL_type_1 (by decide) ?_
  refine r_aload_n (pc := 2) dL_type_2 rfl rfl ?_
  refine r_iload_n (pc := 3) dL_type_3 rfl rfl ?_
  refine r_callVH (pc := 4) (T := TX7) (N := 6) (ci := 6) (n := 1) (kc' := 0) (ks' := 0) (rest := [.int 0, .ref 30]) hM rfl rfl h0 kwX7_type tw_52 tw_250 tw_251 tw_252 ⟨(by decide : yX7_type.cls ≠ "java/lang/invoke/MethodHandle"), (by decide : yX7_type.cls ≠ "java/lang/invoke/VarHandle")⟩ (by decide +kernel : (parseMethodDescriptor yX7_type.desc).map (fun d => d.parameters.length) = some 1) (Nat.le_of_ble_eq_true rfl) (Nat.le_of_ble_eq_true rfl) (Nat.le_of_ble_eq_true rfl) (Nat.le_of_ble_eq_true rfl) (by exact (Nat.le_of_ble_eq_true rfl)) rfl (List.forall_mem_cons.mpr ⟨rfl, (List.forall_mem_cons.mpr ⟨rfl, fun _ h => nomatch h⟩)⟩) rfl dL_type_4 (fun E9 w9 hq _ => ?_) (fun r9 w9 hq _ => ?_)
  · rcases hQ _ _ hq with ⟨v9, f9, e8, -⟩ | ⟨E8, hm, e8⟩
    · cases e8
    rcases List.mem_cons.mp hm with e9 | hm
    · subst e9
      cases e8
      refine ⟨12, ⟨[], (0, 9, 12, 13), [], "java/lang/IllegalStateException", rfl, (fun _ h => nomatch h), by decide, by decide, tw_249, tw_256, rfl⟩, ⟨3, 1, Or.inl ⟨3, rfl, rfl, dL_type_12⟩, (Nat.le_of_ble_eq_true rfl), (fun x z => by cases z), ?_⟩⟩
      refine r_iconst (pc := 13) (v := 1) dL_type_13 (by decide) ?_
      refine r_iret (pc := 14) rfl rfl dL_type_14 ?_
      exact Or.inr ⟨_, hq, rfl⟩
    cases hm
  · obtain ⟨v9, f9, e8, hf⟩ := (hQ _ _ hq).resolve_right (fun ⟨E8, hm, e8⟩ => by cases e8)
    cases e8
    show AW G fL_type 0 0 w9 7 _ [.int v9, .int 0, .ref 30] _
    refine r_i2l (pc := 7) dL_type_7 ?_
    refine r_lastore (pc := 8) hf (vp_in_nI (n := 0) (N := 1) (by decide) (by decide)) dL_type_8 rfl ?_
    refine r_goto (pc := 9) (tgt := 15) dL_type_9 (by decide) ?_
    refine r_iconst (pc := 15) (v := 0) dL_type_15 (by decide) ?_
    refine r_iret (pc := 16) rfl rfl dL_type_16 ?_
    exact Or.inl ⟨v9, w9, f9, hq, rfl, hf, rfl⟩
set_option maxRecDepth 100000 in
set_option maxHeartbeats 4000000 in
theorem al_typeOfText {G : aw_G} (hN : aw_nc G) {w : List va_E} {fs : List Value} (h0 : w[0]? = some (.inr (6, fs))) {Q1 : aw_R → List va_E → Prop} (hM : AM G fX7_typeOfText [.ref 0] w Q1) (hQ : lE ["java/lang/IllegalStateException"] Q1) : AM G fL_typeOfText [.ref 0, .ref 30] w (lq Q1 vlI cd1) := by
  refine AM_ofH (by decide) rfl rfl (Nat.le_of_ble_eq_true rfl) ?_
  show AW G fL_typeOfText 7 370 w 0 [some (.ref 0), some (.ref 30), none] [] _
  refine r_aload_n (pc := 0) dL_typeOfText_0 rfl rfl ?_
  refine r_iconst (pc := 1) (v := 0) dL_typeOfText_1 (by decide) ?_
  refine r_aload_n (pc := 2) dL_typeOfText_2 rfl rfl ?_
  refine r_callVH (pc := 3) (T := TX7) (N := 6) (ci := 6) (n := 0) (kc' := 0) (ks' := 0) (rest := [.int 0, .ref 30]) hM rfl rfl h0 kwX7_typeOfText tw_52 tw_329 tw_330 tw_331 ⟨(by decide : yX7_typeOfText.cls ≠ "java/lang/invoke/MethodHandle"), (by decide : yX7_typeOfText.cls ≠ "java/lang/invoke/VarHandle")⟩ (by decide +kernel : (parseMethodDescriptor yX7_typeOfText.desc).map (fun d => d.parameters.length) = some 0) (Nat.le_of_ble_eq_true rfl) (Nat.le_of_ble_eq_true rfl) (Nat.le_of_ble_eq_true rfl) (Nat.le_of_ble_eq_true rfl) (by exact (Nat.le_of_ble_eq_true rfl)) rfl (List.forall_mem_cons.mpr ⟨rfl, fun _ h => nomatch h⟩) rfl dL_typeOfText_3 (fun E9 w9 hq _ => ?_) (fun r9 w9 hq _ => ?_)
  · rcases hQ _ _ hq with ⟨v9, f9, e8, -⟩ | ⟨E8, hm, e8⟩
    · cases e8
    rcases List.mem_cons.mp hm with e9 | hm
    · subst e9
      cases e8
      refine ⟨11, ⟨[], (0, 8, 11, 13), [], "java/lang/IllegalStateException", rfl, (fun _ h => nomatch h), by decide, by decide, tw_249, tw_256, rfl⟩, ⟨2, 1, Or.inl ⟨2, rfl, rfl, dL_typeOfText_11⟩, (Nat.le_of_ble_eq_true rfl), (fun x z => by cases z), ?_⟩⟩
      refine r_iconst (pc := 12) (v := 1) dL_typeOfText_12 (by decide) ?_
      refine r_iret (pc := 13) rfl rfl dL_typeOfText_13 ?_
      exact Or.inr ⟨_, hq, rfl⟩
    cases hm
  · obtain ⟨v9, f9, e8, hf⟩ := (hQ _ _ hq).resolve_right (fun ⟨E8, hm, e8⟩ => by cases e8)
    cases e8
    show AW G fL_typeOfText 0 0 w9 6 _ [.int v9, .int 0, .ref 30] _
    refine r_i2l (pc := 6) dL_typeOfText_6 ?_
    refine r_lastore (pc := 7) hf (vp_in_nI (n := 0) (N := 1) (by decide) (by decide)) dL_typeOfText_7 rfl ?_
    refine r_goto (pc := 8) (tgt := 14) dL_typeOfText_8 (by decide) ?_
    refine r_iconst (pc := 14) (v := 0) dL_typeOfText_14 (by decide) ?_
    refine r_iret (pc := 15) rfl rfl dL_typeOfText_15 ?_
    exact Or.inl ⟨v9, w9, f9, hq, rfl, hf, rfl⟩
set_option maxRecDepth 100000 in
set_option maxHeartbeats 4000000 in
theorem al_setType {G : aw_G} (hN : aw_nc G) {w : List va_E} {fs : List Value} (h0 : w[0]? = some (.inr (6, fs))) {Q1 : aw_R → List va_E → Prop} {a b : Int32} (hM : AM G fX7_setType [.ref 0, .int a, .int b] w Q1) (hQ : lE ["java/lang/IndexOutOfBoundsException", "java/lang/IllegalArgumentException"] Q1) : AM G fL_setType [.ref 0, .int a, .int b, .ref 30] w (lq Q1 vlI cdT) := by
  refine AM_ofH (by decide) rfl rfl (Nat.le_of_ble_eq_true rfl) ?_
  show AW G fL_setType 2 12 w 0 [some (.ref 0), some (.int a), some (.int b), some (.ref 30), none] [] _
  refine r_aload_n (pc := 0) dL_setType_0 rfl rfl ?_
  refine r_iconst (pc := 1) (v := 0) dL_setType_1 (by decide) ?_
  refine r_aload_n (pc := 2) dL_setType_2 rfl rfl ?_
  refine r_iload_n (pc := 3) dL_setType_3 rfl rfl ?_
  refine r_iload_n (pc := 4) dL_setType_4 rfl rfl ?_
  refine r_callVH (pc := 5) (T := TX7) (N := 6) (ci := 6) (n := 2) (kc' := 0) (ks' := 0) (rest := [.int 0, .ref 30]) hM rfl rfl h0 kwX7_setType tw_52 tw_433 tw_434 tw_435 ⟨(by decide : yX7_setType.cls ≠ "java/lang/invoke/MethodHandle"), (by decide : yX7_setType.cls ≠ "java/lang/invoke/VarHandle")⟩ (by decide +kernel : (parseMethodDescriptor yX7_setType.desc).map (fun d => d.parameters.length) = some 2) (Nat.le_of_ble_eq_true rfl) (Nat.le_of_ble_eq_true rfl) (Nat.le_of_ble_eq_true rfl) (Nat.le_of_ble_eq_true rfl) (by exact (Nat.le_of_ble_eq_true rfl)) rfl (List.forall_mem_cons.mpr ⟨rfl, (List.forall_mem_cons.mpr ⟨rfl, (List.forall_mem_cons.mpr ⟨rfl, fun _ h => nomatch h⟩)⟩)⟩) rfl dL_setType_5 (fun E9 w9 hq _ => ?_) (fun r9 w9 hq _ => ?_)
  · rcases hQ _ _ hq with ⟨v9, f9, e8, -⟩ | ⟨E8, hm, e8⟩
    · cases e8
    rcases List.mem_cons.mp hm with e9 | hm
    · subst e9
      cases e8
      refine ⟨13, ⟨[], (0, 10, 13, 23), [(0, 10, 17, 25)], "java/lang/IndexOutOfBoundsException", rfl, (fun _ h => nomatch h), by decide, by decide, tw_431, tw_442, rfl⟩, ⟨4, 2, Or.inr ⟨rfl, dL_setType_13⟩, (Nat.le_of_ble_eq_true rfl), (fun x z => by cases z), ?_⟩⟩
      refine r_iconst (pc := 15) (v := 1) dL_setType_15 (by decide) ?_
      refine r_iret (pc := 16) rfl rfl dL_setType_16 ?_
      exact Or.inr ⟨_, hq, rfl⟩
    rcases List.mem_cons.mp hm with e9 | hm
    · subst e9
      cases e8
      refine ⟨17, ⟨[(0, 10, 13, 23)], (0, 10, 17, 25), [], "java/lang/IllegalArgumentException", rfl, List.forall_mem_cons.mpr ⟨⟨(by decide), "java/lang/IndexOutOfBoundsException", tw_431, hN.2.1⟩, (fun _ h => nomatch h)⟩, by decide, by decide, tw_432, tw_458, rfl⟩, ⟨4, 2, Or.inr ⟨rfl, dL_setType_17⟩, (Nat.le_of_ble_eq_true rfl), (fun x z => by cases z), ?_⟩⟩
      refine r_iconst (pc := 19) (v := 2) dL_setType_19 (by decide) ?_
      refine r_iret (pc := 20) rfl rfl dL_setType_20 ?_
      exact Or.inr ⟨_, hq, rfl⟩
    cases hm
  · obtain ⟨v9, f9, e8, hf⟩ := (hQ _ _ hq).resolve_right (fun ⟨E8, hm, e8⟩ => by cases e8)
    cases e8
    show AW G fL_setType 0 0 w9 8 _ [.int v9, .int 0, .ref 30] _
    refine r_i2l (pc := 8) dL_setType_8 ?_
    refine r_lastore (pc := 9) hf (vp_in_nI (n := 0) (N := 1) (by decide) (by decide)) dL_setType_9 rfl ?_
    refine r_goto (pc := 10) (tgt := 21) dL_setType_10 (by decide) ?_
    refine r_iconst (pc := 21) (v := 0) dL_setType_21 (by decide) ?_
    refine r_iret (pc := 22) rfl rfl dL_setType_22 ?_
    exact Or.inl ⟨v9, w9, f9, hq, rfl, hf, rfl⟩
set_option maxRecDepth 100000 in
set_option maxHeartbeats 4000000 in
theorem al_setFormula {G : aw_G} (hN : aw_nc G) {w : List va_E} {fs : List Value} (h0 : w[0]? = some (.inr (6, fs))) {Q1 : aw_R → List va_E → Prop} {a : Int32} (hM : AM G fX7_setFormula [.ref 0, .int a] w Q1) (hQ : lE ["java/lang/IndexOutOfBoundsException", "java/lang/IllegalArgumentException", "java/lang/IllegalStateException"] Q1) : AM G fL_setFormula [.ref 0, .int a, .ref 30] w (lq Q1 vlI cdF) := by
  refine AM_ofH (by decide) rfl rfl (Nat.le_of_ble_eq_true rfl) ?_
  show AW G fL_setFormula 10 388 w 0 [some (.ref 0), some (.int a), some (.ref 30), none] [] _
  refine r_aload_n (pc := 0) dL_setFormula_0 rfl rfl ?_
  refine r_iconst (pc := 1) (v := 0) dL_setFormula_1 (by decide) ?_
  refine r_aload_n (pc := 2) dL_setFormula_2 rfl rfl ?_
  refine r_iload_n (pc := 3) dL_setFormula_3 rfl rfl ?_
  refine r_callVH (pc := 4) (T := TX7) (N := 6) (ci := 6) (n := 1) (kc' := 0) (ks' := 0) (rest := [.int 0, .ref 30]) hM rfl rfl h0 kwX7_setFormula tw_52 tw_501 tw_502 tw_503 ⟨(by decide : yX7_setFormula.cls ≠ "java/lang/invoke/MethodHandle"), (by decide : yX7_setFormula.cls ≠ "java/lang/invoke/VarHandle")⟩ (by decide +kernel : (parseMethodDescriptor yX7_setFormula.desc).map (fun d => d.parameters.length) = some 1) (Nat.le_of_ble_eq_true rfl) (Nat.le_of_ble_eq_true rfl) (Nat.le_of_ble_eq_true rfl) (Nat.le_of_ble_eq_true rfl) (by exact (Nat.le_of_ble_eq_true rfl)) rfl (List.forall_mem_cons.mpr ⟨rfl, (List.forall_mem_cons.mpr ⟨rfl, fun _ h => nomatch h⟩)⟩) rfl dL_setFormula_4 (fun E9 w9 hq _ => ?_) (fun r9 w9 hq _ => ?_)
  · rcases hQ _ _ hq with ⟨v9, f9, e8, -⟩ | ⟨E8, hm, e8⟩
    · cases e8
    rcases List.mem_cons.mp hm with e9 | hm
    · subst e9
      cases e8
      refine ⟨12, ⟨[], (0, 9, 12, 23), [(0, 9, 15, 25), (0, 9, 18, 13)], "java/lang/IndexOutOfBoundsException", rfl, (fun _ h => nomatch h), by decide, by decide, tw_431, tw_442, rfl⟩, ⟨3, 1, Or.inl ⟨3, rfl, rfl, dL_setFormula_12⟩, (Nat.le_of_ble_eq_true rfl), (fun x z => by cases z), ?_⟩⟩
      refine r_iconst (pc := 13) (v := 1) dL_setFormula_13 (by decide) ?_
      refine r_iret (pc := 14) rfl rfl dL_setFormula_14 ?_
      exact Or.inr ⟨_, hq, rfl⟩
    rcases List.mem_cons.mp hm with e9 | hm
    · subst e9
      cases e8
      refine ⟨15, ⟨[(0, 9, 12, 23)], (0, 9, 15, 25), [(0, 9, 18, 13)], "java/lang/IllegalArgumentException", rfl, List.forall_mem_cons.mpr ⟨⟨(by decide), "java/lang/IndexOutOfBoundsException", tw_431, hN.2.1⟩, (fun _ h => nomatch h)⟩, by decide, by decide, tw_432, tw_458, rfl⟩, ⟨3, 1, Or.inl ⟨3, rfl, rfl, dL_setFormula_15⟩, (Nat.le_of_ble_eq_true rfl), (fun x z => by cases z), ?_⟩⟩
      refine r_iconst (pc := 16) (v := 2) dL_setFormula_16 (by decide) ?_
      refine r_iret (pc := 17) rfl rfl dL_setFormula_17 ?_
      exact Or.inr ⟨_, hq, rfl⟩
    rcases List.mem_cons.mp hm with e9 | hm
    · subst e9
      cases e8
      refine ⟨18, ⟨[(0, 9, 12, 23), (0, 9, 15, 25)], (0, 9, 18, 13), [], "java/lang/IllegalStateException", rfl, List.forall_mem_cons.mpr ⟨⟨(by decide), "java/lang/IndexOutOfBoundsException", tw_431, hN.2.2.2⟩, List.forall_mem_cons.mpr ⟨⟨(by decide), "java/lang/IllegalArgumentException", tw_432, hN.2.2.1⟩, (fun _ h => nomatch h)⟩⟩, by decide, by decide, tw_249, tw_256, rfl⟩, ⟨3, 1, Or.inl ⟨3, rfl, rfl, dL_setFormula_18⟩, (Nat.le_of_ble_eq_true rfl), (fun x z => by cases z), ?_⟩⟩
      refine r_iconst (pc := 19) (v := 3) dL_setFormula_19 (by decide) ?_
      refine r_iret (pc := 20) rfl rfl dL_setFormula_20 ?_
      exact Or.inr ⟨_, hq, rfl⟩
    cases hm
  · obtain ⟨v9, f9, e8, hf⟩ := (hQ _ _ hq).resolve_right (fun ⟨E8, hm, e8⟩ => by cases e8)
    cases e8
    show AW G fL_setFormula 0 0 w9 7 _ [.int v9, .int 0, .ref 30] _
    refine r_i2l (pc := 7) dL_setFormula_7 ?_
    refine r_lastore (pc := 8) hf (vp_in_nI (n := 0) (N := 1) (by decide) (by decide)) dL_setFormula_8 rfl ?_
    refine r_goto (pc := 9) (tgt := 21) dL_setFormula_9 (by decide) ?_
    refine r_iconst (pc := 21) (v := 0) dL_setFormula_21 (by decide) ?_
    refine r_iret (pc := 22) rfl rfl dL_setFormula_22 ?_
    exact Or.inl ⟨v9, w9, f9, hq, rfl, hf, rfl⟩
set_option maxRecDepth 100000 in
set_option maxHeartbeats 4000000 in
theorem al_dropFormula {G : aw_G} (hN : aw_nc G) {w : List va_E} {fs : List Value} (h0 : w[0]? = some (.inr (6, fs))) {Q1 : aw_R → List va_E → Prop} {a : Int32} (hM : AM G fX7_dropFormula [.ref 0, .int a] w Q1) (hQ : lE ["java/lang/IndexOutOfBoundsException"] Q1) : AM G fL_dropFormula [.ref 0, .int a, .ref 30] w (lq Q1 vlB cd1) := by
  refine AM_ofH (by decide) rfl rfl (Nat.le_of_ble_eq_true rfl) ?_
  show AW G fL_dropFormula 1 6 w 0 [some (.ref 0), some (.int a), some (.ref 30), none] [] _
  refine r_aload_n (pc := 0) dL_dropFormula_0 rfl rfl ?_
  refine r_iconst (pc := 1) (v := 0) dL_dropFormula_1 (by decide) ?_
  refine r_aload_n (pc := 2) dL_dropFormula_2 rfl rfl ?_
  refine r_iload_n (pc := 3) dL_dropFormula_3 rfl rfl ?_
  refine r_callVH (pc := 4) (T := TX7) (N := 6) (ci := 6) (n := 1) (kc' := 0) (ks' := 0) (rest := [.int 0, .ref 30]) hM rfl rfl h0 kwX7_dropFormula tw_52 tw_538 tw_539 tw_540 ⟨(by decide : yX7_dropFormula.cls ≠ "java/lang/invoke/MethodHandle"), (by decide : yX7_dropFormula.cls ≠ "java/lang/invoke/VarHandle")⟩ (by decide +kernel : (parseMethodDescriptor yX7_dropFormula.desc).map (fun d => d.parameters.length) = some 1) (Nat.le_of_ble_eq_true rfl) (Nat.le_of_ble_eq_true rfl) (Nat.le_of_ble_eq_true rfl) (Nat.le_of_ble_eq_true rfl) (by exact (Nat.le_of_ble_eq_true rfl)) rfl (List.forall_mem_cons.mpr ⟨rfl, (List.forall_mem_cons.mpr ⟨rfl, fun _ h => nomatch h⟩)⟩) rfl dL_dropFormula_4 (fun E9 w9 hq _ => ?_) (fun r9 w9 hq _ => ?_)
  · rcases hQ _ _ hq with ⟨v9, f9, e8, -⟩ | ⟨E8, hm, e8⟩
    · cases e8
    rcases List.mem_cons.mp hm with e9 | hm
    · subst e9
      cases e8
      refine ⟨19, ⟨[], (0, 16, 19, 23), [], "java/lang/IndexOutOfBoundsException", rfl, (fun _ h => nomatch h), by decide, by decide, tw_431, tw_442, rfl⟩, ⟨3, 1, Or.inl ⟨3, rfl, rfl, dL_dropFormula_19⟩, (Nat.le_of_ble_eq_true rfl), (fun x z => by cases z), ?_⟩⟩
      refine r_iconst (pc := 20) (v := 1) dL_dropFormula_20 (by decide) ?_
      refine r_iret (pc := 21) rfl rfl dL_dropFormula_21 ?_
      exact Or.inr ⟨_, hq, rfl⟩
    cases hm
  · obtain ⟨v9, f9, e8, hf⟩ := (hQ _ _ hq).resolve_right (fun ⟨E8, hm, e8⟩ => by cases e8)
    cases e8
    show AW G fL_dropFormula 0 0 w9 7 _ [.int v9, .int 0, .ref 30] _
    refine r_if_eq (pc := 7) (tgt := 14) dL_dropFormula_7 (by decide) (fun h7 => ?_) (fun h7 => ?_)
    · refine r_lconst (pc := 14) dL_dropFormula_14 rfl ?_
      refine r_lastore (pc := 15) hf (vp_in_nI (n := 0) (N := 1) (by decide) (by decide)) dL_dropFormula_15 rfl ?_
      refine r_goto (pc := 16) (tgt := 22) dL_dropFormula_16 (by decide) ?_
      refine r_iconst (pc := 22) (v := 0) dL_dropFormula_22 (by decide) ?_
      refine r_iret (pc := 23) rfl rfl dL_dropFormula_23 ?_
      exact Or.inl ⟨v9, w9, f9, hq, rfl, hf, by rw [vlB, if_pos h7]; rfl⟩
    · refine r_lconst (pc := 10) dL_dropFormula_10 rfl ?_
      refine r_goto (pc := 11) (tgt := 15) dL_dropFormula_11 (by decide) ?_
      refine r_lastore (pc := 15) hf (vp_in_nI (n := 0) (N := 1) (by decide) (by decide)) dL_dropFormula_15 rfl ?_
      refine r_goto (pc := 16) (tgt := 22) dL_dropFormula_16 (by decide) ?_
      refine r_iconst (pc := 22) (v := 0) dL_dropFormula_22 (by decide) ?_
      refine r_iret (pc := 23) rfl rfl dL_dropFormula_23 ?_
      exact Or.inl ⟨v9, w9, f9, hq, rfl, hf, by rw [vlB, if_neg h7]; rfl⟩
set_option maxRecDepth 100000 in
set_option maxHeartbeats 4000000 in
theorem al_isBroken {G : aw_G} (hN : aw_nc G) {w : List va_E} {fs : List Value} (h0 : w[0]? = some (.inr (6, fs))) {Q1 : aw_R → List va_E → Prop} {a : Int32} (hM : AM G fX7_isBroken [.ref 0, .int a] w Q1) (hQ : lE ["java/lang/IndexOutOfBoundsException"] Q1) : AM G fL_isBroken [.ref 0, .int a, .ref 30] w (lq Q1 vlB cd1) := by
  refine AM_ofH (by decide) rfl rfl (Nat.le_of_ble_eq_true rfl) ?_
  show AW G fL_isBroken 1 6 w 0 [some (.ref 0), some (.int a), some (.ref 30), none] [] _
  refine r_aload_n (pc := 0) dL_isBroken_0 rfl rfl ?_
  refine r_iconst (pc := 1) (v := 0) dL_isBroken_1 (by decide) ?_
  refine r_aload_n (pc := 2) dL_isBroken_2 rfl rfl ?_
  refine r_iload_n (pc := 3) dL_isBroken_3 rfl rfl ?_
  refine r_callVH (pc := 4) (T := TX7) (N := 6) (ci := 6) (n := 1) (kc' := 0) (ks' := 0) (rest := [.int 0, .ref 30]) hM rfl rfl h0 kwX7_isBroken tw_52 tw_546 tw_547 tw_548 ⟨(by decide : yX7_isBroken.cls ≠ "java/lang/invoke/MethodHandle"), (by decide : yX7_isBroken.cls ≠ "java/lang/invoke/VarHandle")⟩ (by decide +kernel : (parseMethodDescriptor yX7_isBroken.desc).map (fun d => d.parameters.length) = some 1) (Nat.le_of_ble_eq_true rfl) (Nat.le_of_ble_eq_true rfl) (Nat.le_of_ble_eq_true rfl) (Nat.le_of_ble_eq_true rfl) (by exact (Nat.le_of_ble_eq_true rfl)) rfl (List.forall_mem_cons.mpr ⟨rfl, (List.forall_mem_cons.mpr ⟨rfl, fun _ h => nomatch h⟩)⟩) rfl dL_isBroken_4 (fun E9 w9 hq _ => ?_) (fun r9 w9 hq _ => ?_)
  · rcases hQ _ _ hq with ⟨v9, f9, e8, -⟩ | ⟨E8, hm, e8⟩
    · cases e8
    rcases List.mem_cons.mp hm with e9 | hm
    · subst e9
      cases e8
      refine ⟨19, ⟨[], (0, 16, 19, 23), [], "java/lang/IndexOutOfBoundsException", rfl, (fun _ h => nomatch h), by decide, by decide, tw_431, tw_442, rfl⟩, ⟨3, 1, Or.inl ⟨3, rfl, rfl, dL_isBroken_19⟩, (Nat.le_of_ble_eq_true rfl), (fun x z => by cases z), ?_⟩⟩
      refine r_iconst (pc := 20) (v := 1) dL_isBroken_20 (by decide) ?_
      refine r_iret (pc := 21) rfl rfl dL_isBroken_21 ?_
      exact Or.inr ⟨_, hq, rfl⟩
    cases hm
  · obtain ⟨v9, f9, e8, hf⟩ := (hQ _ _ hq).resolve_right (fun ⟨E8, hm, e8⟩ => by cases e8)
    cases e8
    show AW G fL_isBroken 0 0 w9 7 _ [.int v9, .int 0, .ref 30] _
    refine r_if_eq (pc := 7) (tgt := 14) dL_isBroken_7 (by decide) (fun h7 => ?_) (fun h7 => ?_)
    · refine r_lconst (pc := 14) dL_isBroken_14 rfl ?_
      refine r_lastore (pc := 15) hf (vp_in_nI (n := 0) (N := 1) (by decide) (by decide)) dL_isBroken_15 rfl ?_
      refine r_goto (pc := 16) (tgt := 22) dL_isBroken_16 (by decide) ?_
      refine r_iconst (pc := 22) (v := 0) dL_isBroken_22 (by decide) ?_
      refine r_iret (pc := 23) rfl rfl dL_isBroken_23 ?_
      exact Or.inl ⟨v9, w9, f9, hq, rfl, hf, by rw [vlB, if_pos h7]; rfl⟩
    · refine r_lconst (pc := 10) dL_isBroken_10 rfl ?_
      refine r_goto (pc := 11) (tgt := 15) dL_isBroken_11 (by decide) ?_
      refine r_lastore (pc := 15) hf (vp_in_nI (n := 0) (N := 1) (by decide) (by decide)) dL_isBroken_15 rfl ?_
      refine r_goto (pc := 16) (tgt := 22) dL_isBroken_16 (by decide) ?_
      refine r_iconst (pc := 22) (v := 0) dL_isBroken_22 (by decide) ?_
      refine r_iret (pc := 23) rfl rfl dL_isBroken_23 ?_
      exact Or.inl ⟨v9, w9, f9, hq, rfl, hf, by rw [vlB, if_neg h7]; rfl⟩
set_option maxRecDepth 100000 in
set_option maxHeartbeats 4000000 in
theorem al_publish {G : aw_G} (hN : aw_nc G) {w : List va_E} {fs : List Value} (h0 : w[0]? = some (.inr (6, fs))) {Q1 : aw_R → List va_E → Prop} (hM : AM G fX7_publish [.ref 0] w Q1) (hQ : lE ["java/lang/IllegalStateException"] Q1) : AM G fL_publish [.ref 0, .ref 30] w (lq Q1 vlI cd1) := by
  refine AM_ofH (by decide) rfl rfl (Nat.le_of_ble_eq_true rfl) ?_
  show AW G fL_publish 7 116 w 0 [some (.ref 0), some (.ref 30), none] [] _
  refine r_aload_n (pc := 0) dL_publish_0 rfl rfl ?_
  refine r_iconst (pc := 1) (v := 0) dL_publish_1 (by decide) ?_
  refine r_aload_n (pc := 2) dL_publish_2 rfl rfl ?_
  refine r_callVH (pc := 3) (T := TX7) (N := 6) (ci := 6) (n := 0) (kc' := 0) (ks' := 0) (rest := [.int 0, .ref 30]) hM rfl rfl h0 kwX7_publish tw_52 tw_554 tw_555 tw_556 ⟨(by decide : yX7_publish.cls ≠ "java/lang/invoke/MethodHandle"), (by decide : yX7_publish.cls ≠ "java/lang/invoke/VarHandle")⟩ (by decide +kernel : (parseMethodDescriptor yX7_publish.desc).map (fun d => d.parameters.length) = some 0) (Nat.le_of_ble_eq_true rfl) (Nat.le_of_ble_eq_true rfl) (Nat.le_of_ble_eq_true rfl) (Nat.le_of_ble_eq_true rfl) (by exact (Nat.le_of_ble_eq_true rfl)) rfl (List.forall_mem_cons.mpr ⟨rfl, fun _ h => nomatch h⟩) rfl dL_publish_3 (fun E9 w9 hq _ => ?_) (fun r9 w9 hq _ => ?_)
  · rcases hQ _ _ hq with ⟨v9, f9, e8, -⟩ | ⟨E8, hm, e8⟩
    · cases e8
    rcases List.mem_cons.mp hm with e9 | hm
    · subst e9
      cases e8
      refine ⟨11, ⟨[], (0, 8, 11, 13), [], "java/lang/IllegalStateException", rfl, (fun _ h => nomatch h), by decide, by decide, tw_249, tw_256, rfl⟩, ⟨2, 1, Or.inl ⟨2, rfl, rfl, dL_publish_11⟩, (Nat.le_of_ble_eq_true rfl), (fun x z => by cases z), ?_⟩⟩
      refine r_iconst (pc := 12) (v := 1) dL_publish_12 (by decide) ?_
      refine r_iret (pc := 13) rfl rfl dL_publish_13 ?_
      exact Or.inr ⟨_, hq, rfl⟩
    cases hm
  · obtain ⟨v9, f9, e8, hf⟩ := (hQ _ _ hq).resolve_right (fun ⟨E8, hm, e8⟩ => by cases e8)
    cases e8
    show AW G fL_publish 0 0 w9 6 _ [.int v9, .int 0, .ref 30] _
    refine r_i2l (pc := 6) dL_publish_6 ?_
    refine r_lastore (pc := 7) hf (vp_in_nI (n := 0) (N := 1) (by decide) (by decide)) dL_publish_7 rfl ?_
    refine r_goto (pc := 8) (tgt := 14) dL_publish_8 (by decide) ?_
    refine r_iconst (pc := 14) (v := 0) dL_publish_14 (by decide) ?_
    refine r_iret (pc := 15) rfl rfl dL_publish_15 ?_
    exact Or.inl ⟨v9, w9, f9, hq, rfl, hf, rfl⟩
set_option maxRecDepth 100000 in
set_option maxHeartbeats 4000000 in
theorem al_typeIn {G : aw_G} (hN : aw_nc G) {w : List va_E} {fs : List Value} (h0 : w[0]? = some (.inr (6, fs))) {Q1 : aw_R → List va_E → Prop} {a b : Int32} (hM : AM G fX7_typeIn [.ref 0, .int a, .int b] w Q1) (hQ : lE ["java/lang/IndexOutOfBoundsException"] Q1) : AM G fL_typeIn [.ref 0, .int a, .int b, .ref 30] w (lq Q1 vlI cd1) := by
  refine AM_ofH (by decide) rfl rfl (Nat.le_of_ble_eq_true rfl) ?_
  show AW G fL_typeIn 2 12 w 0 [some (.ref 0), some (.int a), some (.int b), some (.ref 30), none] [] _
  refine r_aload_n (pc := 0) dL_typeIn_0 rfl rfl ?_
  refine r_iconst (pc := 1) (v := 0) dL_typeIn_1 (by decide) ?_
  refine r_aload_n (pc := 2) dL_typeIn_2 rfl rfl ?_
  refine r_iload_n (pc := 3) dL_typeIn_3 rfl rfl ?_
  refine r_iload_n (pc := 4) dL_typeIn_4 rfl rfl ?_
  refine r_callVH (pc := 5) (T := TX7) (N := 6) (ci := 6) (n := 2) (kc' := 0) (ks' := 0) (rest := [.int 0, .ref 30]) hM rfl rfl h0 kwX7_typeIn tw_52 tw_628 tw_629 tw_630 ⟨(by decide : yX7_typeIn.cls ≠ "java/lang/invoke/MethodHandle"), (by decide : yX7_typeIn.cls ≠ "java/lang/invoke/VarHandle")⟩ (by decide +kernel : (parseMethodDescriptor yX7_typeIn.desc).map (fun d => d.parameters.length) = some 2) (Nat.le_of_ble_eq_true rfl) (Nat.le_of_ble_eq_true rfl) (Nat.le_of_ble_eq_true rfl) (Nat.le_of_ble_eq_true rfl) (by exact (Nat.le_of_ble_eq_true rfl)) rfl (List.forall_mem_cons.mpr ⟨rfl, (List.forall_mem_cons.mpr ⟨rfl, (List.forall_mem_cons.mpr ⟨rfl, fun _ h => nomatch h⟩)⟩)⟩) rfl dL_typeIn_5 (fun E9 w9 hq _ => ?_) (fun r9 w9 hq _ => ?_)
  · rcases hQ _ _ hq with ⟨v9, f9, e8, -⟩ | ⟨E8, hm, e8⟩
    · cases e8
    rcases List.mem_cons.mp hm with e9 | hm
    · subst e9
      cases e8
      refine ⟨13, ⟨[], (0, 10, 13, 23), [], "java/lang/IndexOutOfBoundsException", rfl, (fun _ h => nomatch h), by decide, by decide, tw_431, tw_442, rfl⟩, ⟨4, 2, Or.inr ⟨rfl, dL_typeIn_13⟩, (Nat.le_of_ble_eq_true rfl), (fun x z => by cases z), ?_⟩⟩
      refine r_iconst (pc := 15) (v := 1) dL_typeIn_15 (by decide) ?_
      refine r_iret (pc := 16) rfl rfl dL_typeIn_16 ?_
      exact Or.inr ⟨_, hq, rfl⟩
    cases hm
  · obtain ⟨v9, f9, e8, hf⟩ := (hQ _ _ hq).resolve_right (fun ⟨E8, hm, e8⟩ => by cases e8)
    cases e8
    show AW G fL_typeIn 0 0 w9 8 _ [.int v9, .int 0, .ref 30] _
    refine r_i2l (pc := 8) dL_typeIn_8 ?_
    refine r_lastore (pc := 9) hf (vp_in_nI (n := 0) (N := 1) (by decide) (by decide)) dL_typeIn_9 rfl ?_
    refine r_goto (pc := 10) (tgt := 17) dL_typeIn_10 (by decide) ?_
    refine r_iconst (pc := 17) (v := 0) dL_typeIn_17 (by decide) ?_
    refine r_iret (pc := 18) rfl rfl dL_typeIn_18 ?_
    exact Or.inl ⟨v9, w9, f9, hq, rfl, hf, rfl⟩
set_option maxRecDepth 100000 in
set_option maxHeartbeats 4000000 in
theorem al_order {G : aw_G} (hN : aw_nc G) {w : List va_E} {fs : List Value} (h0 : w[0]? = some (.inr (6, fs))) {Q1 : aw_R → List va_E → Prop} {a b : Int32} (hM : AM G fX7_order [.ref 0, .int a, .int b] w Q1) (hQ : lE ["java/lang/IndexOutOfBoundsException"] Q1) : AM G fL_order [.ref 0, .int a, .int b, .ref 30] w (lq Q1 vlI cd1) := by
  refine AM_ofH (by decide) rfl rfl (Nat.le_of_ble_eq_true rfl) ?_
  show AW G fL_order 2 12 w 0 [some (.ref 0), some (.int a), some (.int b), some (.ref 30), none] [] _
  refine r_aload_n (pc := 0) dL_order_0 rfl rfl ?_
  refine r_iconst (pc := 1) (v := 0) dL_order_1 (by decide) ?_
  refine r_aload_n (pc := 2) dL_order_2 rfl rfl ?_
  refine r_iload_n (pc := 3) dL_order_3 rfl rfl ?_
  refine r_iload_n (pc := 4) dL_order_4 rfl rfl ?_
  refine r_callVH (pc := 5) (T := TX7) (N := 6) (ci := 6) (n := 2) (kc' := 0) (ks' := 0) (rest := [.int 0, .ref 30]) hM rfl rfl h0 kwX7_order tw_52 tw_641 tw_642 tw_643 ⟨(by decide : yX7_order.cls ≠ "java/lang/invoke/MethodHandle"), (by decide : yX7_order.cls ≠ "java/lang/invoke/VarHandle")⟩ (by decide +kernel : (parseMethodDescriptor yX7_order.desc).map (fun d => d.parameters.length) = some 2) (Nat.le_of_ble_eq_true rfl) (Nat.le_of_ble_eq_true rfl) (Nat.le_of_ble_eq_true rfl) (Nat.le_of_ble_eq_true rfl) (by exact (Nat.le_of_ble_eq_true rfl)) rfl (List.forall_mem_cons.mpr ⟨rfl, (List.forall_mem_cons.mpr ⟨rfl, (List.forall_mem_cons.mpr ⟨rfl, fun _ h => nomatch h⟩)⟩)⟩) rfl dL_order_5 (fun E9 w9 hq _ => ?_) (fun r9 w9 hq _ => ?_)
  · rcases hQ _ _ hq with ⟨v9, f9, e8, -⟩ | ⟨E8, hm, e8⟩
    · cases e8
    rcases List.mem_cons.mp hm with e9 | hm
    · subst e9
      cases e8
      refine ⟨13, ⟨[], (0, 10, 13, 23), [], "java/lang/IndexOutOfBoundsException", rfl, (fun _ h => nomatch h), by decide, by decide, tw_431, tw_442, rfl⟩, ⟨4, 2, Or.inr ⟨rfl, dL_order_13⟩, (Nat.le_of_ble_eq_true rfl), (fun x z => by cases z), ?_⟩⟩
      refine r_iconst (pc := 15) (v := 1) dL_order_15 (by decide) ?_
      refine r_iret (pc := 16) rfl rfl dL_order_16 ?_
      exact Or.inr ⟨_, hq, rfl⟩
    cases hm
  · obtain ⟨v9, f9, e8, hf⟩ := (hQ _ _ hq).resolve_right (fun ⟨E8, hm, e8⟩ => by cases e8)
    cases e8
    show AW G fL_order 0 0 w9 8 _ [.int v9, .int 0, .ref 30] _
    refine r_i2l (pc := 8) dL_order_8 ?_
    refine r_lastore (pc := 9) hf (vp_in_nI (n := 0) (N := 1) (by decide) (by decide)) dL_order_9 rfl ?_
    refine r_goto (pc := 10) (tgt := 17) dL_order_10 (by decide) ?_
    refine r_iconst (pc := 17) (v := 0) dL_order_17 (by decide) ?_
    refine r_iret (pc := 18) rfl rfl dL_order_18 ?_
    exact Or.inl ⟨v9, w9, f9, hq, rfl, hf, rfl⟩
set_option maxRecDepth 100000 in
set_option maxHeartbeats 4000000 in
theorem al_plain {G : aw_G} (hN : aw_nc G) {w : List va_E} {fs : List Value} (h0 : w[0]? = some (.inr (6, fs))) {Q1 : aw_R → List va_E → Prop} {a b c : Int32} (hM : AM G fX7_plain [.ref 0, .int a, .int b, .int c] w Q1) (hQ : lE ["java/lang/IndexOutOfBoundsException"] Q1) : AM G fL_plain [.ref 0, .int a, .int b, .int c, .ref 30] w (lq Q1 vlI cd1) := by
  refine AM_ofH (by decide) rfl rfl (Nat.le_of_ble_eq_true rfl) ?_
  show AW G fL_plain 3 18 w 0 [some (.ref 0), some (.int a), some (.int b), some (.int c), some (.ref 30), none] [] _
  refine r_aload (pc := 0) dL_plain_0 rfl ?_
  refine r_iconst (pc := 2) (v := 0) dL_plain_2 (by decide) ?_
  refine r_aload_n (pc := 3) dL_plain_3 rfl rfl ?_
  refine r_iload_n (pc := 4) dL_plain_4 rfl rfl ?_
  refine r_iload_n (pc := 5) dL_plain_5 rfl rfl ?_
  refine r_iload_n (pc := 6) dL_plain_6 rfl rfl ?_
  refine r_callVH (pc := 7) (T := TX7) (N := 6) (ci := 6) (n := 3) (kc' := 0) (ks' := 0) (rest := [.int 0, .ref 30]) hM rfl rfl h0 kwX7_plain tw_52 tw_656 tw_657 tw_658 ⟨(by decide : yX7_plain.cls ≠ "java/lang/invoke/MethodHandle"), (by decide : yX7_plain.cls ≠ "java/lang/invoke/VarHandle")⟩ (by decide +kernel : (parseMethodDescriptor yX7_plain.desc).map (fun d => d.parameters.length) = some 3) (Nat.le_of_ble_eq_true rfl) (Nat.le_of_ble_eq_true rfl) (Nat.le_of_ble_eq_true rfl) (Nat.le_of_ble_eq_true rfl) (by exact (Nat.le_of_ble_eq_true rfl)) rfl (List.forall_mem_cons.mpr ⟨rfl, (List.forall_mem_cons.mpr ⟨rfl, (List.forall_mem_cons.mpr ⟨rfl, (List.forall_mem_cons.mpr ⟨rfl, fun _ h => nomatch h⟩)⟩)⟩)⟩) rfl dL_plain_7 (fun E9 w9 hq _ => ?_) (fun r9 w9 hq _ => ?_)
  · rcases hQ _ _ hq with ⟨v9, f9, e8, -⟩ | ⟨E8, hm, e8⟩
    · cases e8
    rcases List.mem_cons.mp hm with e9 | hm
    · subst e9
      cases e8
      refine ⟨15, ⟨[], (0, 12, 15, 23), [], "java/lang/IndexOutOfBoundsException", rfl, (fun _ h => nomatch h), by decide, by decide, tw_431, tw_442, rfl⟩, ⟨5, 2, Or.inr ⟨rfl, dL_plain_15⟩, (Nat.le_of_ble_eq_true rfl), (fun x z => by cases z), ?_⟩⟩
      refine r_iconst (pc := 17) (v := 1) dL_plain_17 (by decide) ?_
      refine r_iret (pc := 18) rfl rfl dL_plain_18 ?_
      exact Or.inr ⟨_, hq, rfl⟩
    cases hm
  · obtain ⟨v9, f9, e8, hf⟩ := (hQ _ _ hq).resolve_right (fun ⟨E8, hm, e8⟩ => by cases e8)
    cases e8
    show AW G fL_plain 0 0 w9 10 _ [.int v9, .int 0, .ref 30] _
    refine r_i2l (pc := 10) dL_plain_10 ?_
    refine r_lastore (pc := 11) hf (vp_in_nI (n := 0) (N := 1) (by decide) (by decide)) dL_plain_11 rfl ?_
    refine r_goto (pc := 12) (tgt := 19) dL_plain_12 (by decide) ?_
    refine r_iconst (pc := 19) (v := 0) dL_plain_19 (by decide) ?_
    refine r_iret (pc := 20) rfl rfl dL_plain_20 ?_
    exact Or.inl ⟨v9, w9, f9, hq, rfl, hf, rfl⟩
set_option maxRecDepth 100000 in
set_option maxHeartbeats 4000000 in
theorem al_begin {G : aw_G} (hN : aw_nc G) {w : List va_E} {fs : List Value} (h0 : w[0]? = some (.inr (6, fs))) {Q1 : aw_R → List va_E → Prop} (hM : AM G fX7_begin [.ref 0] w Q1) (hQ : lE ["java/lang/IllegalStateException"] Q1) : AM G fL_begin [.ref 0, .ref 30] w (lq Q1 vlI cd1) := by
  refine AM_ofH (by decide) rfl rfl (Nat.le_of_ble_eq_true rfl) ?_
  show AW G fL_begin 5 25 w 0 [some (.ref 0), some (.ref 30), none] [] _
  refine r_aload_n (pc := 0) dL_begin_0 rfl rfl ?_
  refine r_iconst (pc := 1) (v := 0) dL_begin_1 (by decide) ?_
  refine r_aload_n (pc := 2) dL_begin_2 rfl rfl ?_
  refine r_callVH (pc := 3) (T := TX7) (N := 6) (ci := 6) (n := 0) (kc' := 0) (ks' := 0) (rest := [.int 0, .ref 30]) hM rfl rfl h0 kwX7_begin tw_52 tw_664 tw_665 tw_666 ⟨(by decide : yX7_begin.cls ≠ "java/lang/invoke/MethodHandle"), (by decide : yX7_begin.cls ≠ "java/lang/invoke/VarHandle")⟩ (by decide +kernel : (parseMethodDescriptor yX7_begin.desc).map (fun d => d.parameters.length) = some 0) (Nat.le_of_ble_eq_true rfl) (Nat.le_of_ble_eq_true rfl) (Nat.le_of_ble_eq_true rfl) (Nat.le_of_ble_eq_true rfl) (by exact (Nat.le_of_ble_eq_true rfl)) rfl (List.forall_mem_cons.mpr ⟨rfl, fun _ h => nomatch h⟩) rfl dL_begin_3 (fun E9 w9 hq _ => ?_) (fun r9 w9 hq _ => ?_)
  · rcases hQ _ _ hq with ⟨v9, f9, e8, -⟩ | ⟨E8, hm, e8⟩
    · cases e8
    rcases List.mem_cons.mp hm with e9 | hm
    · subst e9
      cases e8
      refine ⟨11, ⟨[], (0, 8, 11, 13), [], "java/lang/IllegalStateException", rfl, (fun _ h => nomatch h), by decide, by decide, tw_249, tw_256, rfl⟩, ⟨2, 1, Or.inl ⟨2, rfl, rfl, dL_begin_11⟩, (Nat.le_of_ble_eq_true rfl), (fun x z => by cases z), ?_⟩⟩
      refine r_iconst (pc := 12) (v := 1) dL_begin_12 (by decide) ?_
      refine r_iret (pc := 13) rfl rfl dL_begin_13 ?_
      exact Or.inr ⟨_, hq, rfl⟩
    cases hm
  · obtain ⟨v9, f9, e8, hf⟩ := (hQ _ _ hq).resolve_right (fun ⟨E8, hm, e8⟩ => by cases e8)
    cases e8
    show AW G fL_begin 0 0 w9 6 _ [.int v9, .int 0, .ref 30] _
    refine r_i2l (pc := 6) dL_begin_6 ?_
    refine r_lastore (pc := 7) hf (vp_in_nI (n := 0) (N := 1) (by decide) (by decide)) dL_begin_7 rfl ?_
    refine r_goto (pc := 8) (tgt := 14) dL_begin_8 (by decide) ?_
    refine r_iconst (pc := 14) (v := 0) dL_begin_14 (by decide) ?_
    refine r_iret (pc := 15) rfl rfl dL_begin_15 ?_
    exact Or.inl ⟨v9, w9, f9, hq, rfl, hf, rfl⟩
set_option maxRecDepth 100000 in
set_option maxHeartbeats 4000000 in
theorem al_put {G : aw_G} (hN : aw_nc G) {w : List va_E} {fs : List Value} (h0 : w[0]? = some (.inr (6, fs))) {Q1 : aw_R → List va_E → Prop} {a b c : Int32} (hM : AM G fX7_put [.ref 0, .int a, .int b, .int c] w Q1) (hQ : lE ["java/lang/IndexOutOfBoundsException", "java/lang/IllegalStateException", "java/lang/IllegalArgumentException"] Q1) : AM G fL_put [.ref 0, .int a, .int b, .int c, .ref 30] w (lq Q1 vlI cdP) := by
  refine AM_ofH (by decide) rfl rfl (Nat.le_of_ble_eq_true rfl) ?_
  show AW G fL_put 4 24 w 0 [some (.ref 0), some (.int a), some (.int b), some (.int c), some (.ref 30), none] [] _
  refine r_aload (pc := 0) dL_put_0 rfl ?_
  refine r_iconst (pc := 2) (v := 0) dL_put_2 (by decide) ?_
  refine r_aload_n (pc := 3) dL_put_3 rfl rfl ?_
  refine r_iload_n (pc := 4) dL_put_4 rfl rfl ?_
  refine r_iload_n (pc := 5) dL_put_5 rfl rfl ?_
  refine r_iload_n (pc := 6) dL_put_6 rfl rfl ?_
  refine r_callVH (pc := 7) (T := TX7) (N := 6) (ci := 6) (n := 3) (kc' := 0) (ks' := 0) (rest := [.int 0, .ref 30]) hM rfl rfl h0 kwX7_put tw_52 tw_705 tw_706 tw_707 ⟨(by decide : yX7_put.cls ≠ "java/lang/invoke/MethodHandle"), (by decide : yX7_put.cls ≠ "java/lang/invoke/VarHandle")⟩ (by decide +kernel : (parseMethodDescriptor yX7_put.desc).map (fun d => d.parameters.length) = some 3) (Nat.le_of_ble_eq_true rfl) (Nat.le_of_ble_eq_true rfl) (Nat.le_of_ble_eq_true rfl) (Nat.le_of_ble_eq_true rfl) (by exact (Nat.le_of_ble_eq_true rfl)) rfl (List.forall_mem_cons.mpr ⟨rfl, (List.forall_mem_cons.mpr ⟨rfl, (List.forall_mem_cons.mpr ⟨rfl, (List.forall_mem_cons.mpr ⟨rfl, fun _ h => nomatch h⟩)⟩)⟩)⟩) rfl dL_put_7 (fun E9 w9 hq _ => ?_) (fun r9 w9 hq _ => ?_)
  · rcases hQ _ _ hq with ⟨v9, f9, e8, -⟩ | ⟨E8, hm, e8⟩
    · cases e8
    rcases List.mem_cons.mp hm with e9 | hm
    · subst e9
      cases e8
      refine ⟨15, ⟨[], (0, 12, 15, 23), [(0, 12, 19, 13), (0, 12, 23, 25)], "java/lang/IndexOutOfBoundsException", rfl, (fun _ h => nomatch h), by decide, by decide, tw_431, tw_442, rfl⟩, ⟨5, 2, Or.inr ⟨rfl, dL_put_15⟩, (Nat.le_of_ble_eq_true rfl), (fun x z => by cases z), ?_⟩⟩
      refine r_iconst (pc := 17) (v := 1) dL_put_17 (by decide) ?_
      refine r_iret (pc := 18) rfl rfl dL_put_18 ?_
      exact Or.inr ⟨_, hq, rfl⟩
    rcases List.mem_cons.mp hm with e9 | hm
    · subst e9
      cases e8
      refine ⟨19, ⟨[(0, 12, 15, 23)], (0, 12, 19, 13), [(0, 12, 23, 25)], "java/lang/IllegalStateException", rfl, List.forall_mem_cons.mpr ⟨⟨(by decide), "java/lang/IndexOutOfBoundsException", tw_431, hN.2.2.2⟩, (fun _ h => nomatch h)⟩, by decide, by decide, tw_249, tw_256, rfl⟩, ⟨5, 2, Or.inr ⟨rfl, dL_put_19⟩, (Nat.le_of_ble_eq_true rfl), (fun x z => by cases z), ?_⟩⟩
      refine r_iconst (pc := 21) (v := 2) dL_put_21 (by decide) ?_
      refine r_iret (pc := 22) rfl rfl dL_put_22 ?_
      exact Or.inr ⟨_, hq, rfl⟩
    rcases List.mem_cons.mp hm with e9 | hm
    · subst e9
      cases e8
      refine ⟨23, ⟨[(0, 12, 15, 23), (0, 12, 19, 13)], (0, 12, 23, 25), [], "java/lang/IllegalArgumentException", rfl, List.forall_mem_cons.mpr ⟨⟨(by decide), "java/lang/IndexOutOfBoundsException", tw_431, hN.2.1⟩, List.forall_mem_cons.mpr ⟨⟨(by decide), "java/lang/IllegalStateException", tw_249, hN.1⟩, (fun _ h => nomatch h)⟩⟩, by decide, by decide, tw_432, tw_458, rfl⟩, ⟨5, 2, Or.inr ⟨rfl, dL_put_23⟩, (Nat.le_of_ble_eq_true rfl), (fun x z => by cases z), ?_⟩⟩
      refine r_iconst (pc := 25) (v := 3) dL_put_25 (by decide) ?_
      refine r_iret (pc := 26) rfl rfl dL_put_26 ?_
      exact Or.inr ⟨_, hq, rfl⟩
    cases hm
  · obtain ⟨v9, f9, e8, hf⟩ := (hQ _ _ hq).resolve_right (fun ⟨E8, hm, e8⟩ => by cases e8)
    cases e8
    show AW G fL_put 0 0 w9 10 _ [.int v9, .int 0, .ref 30] _
    refine r_i2l (pc := 10) dL_put_10 ?_
    refine r_lastore (pc := 11) hf (vp_in_nI (n := 0) (N := 1) (by decide) (by decide)) dL_put_11 rfl ?_
    refine r_goto (pc := 12) (tgt := 27) dL_put_12 (by decide) ?_
    refine r_iconst (pc := 27) (v := 0) dL_put_27 (by decide) ?_
    refine r_iret (pc := 28) rfl rfl dL_put_28 ?_
    exact Or.inl ⟨v9, w9, f9, hq, rfl, hf, rfl⟩
set_option maxRecDepth 100000 in
set_option maxHeartbeats 4000000 in
theorem al_handIn {G : aw_G} (hN : aw_nc G) {w : List va_E} {fs : List Value} (h0 : w[0]? = some (.inr (6, fs))) {Q1 : aw_R → List va_E → Prop} {a : Int32} (hM : AM G fX7_handIn [.ref 0, .int a] w Q1) (hQ : lE ["java/lang/IndexOutOfBoundsException", "java/lang/IllegalStateException"] Q1) : AM G fL_handIn [.ref 0, .int a, .ref 30] w (lq Q1 vlI cdT) := by
  refine AM_ofH (by decide) rfl rfl (Nat.le_of_ble_eq_true rfl) ?_
  show AW G fL_handIn 2 12 w 0 [some (.ref 0), some (.int a), some (.ref 30), none] [] _
  refine r_aload_n (pc := 0) dL_handIn_0 rfl rfl ?_
  refine r_iconst (pc := 1) (v := 0) dL_handIn_1 (by decide) ?_
  refine r_aload_n (pc := 2) dL_handIn_2 rfl rfl ?_
  refine r_iload_n (pc := 3) dL_handIn_3 rfl rfl ?_
  refine r_callVH (pc := 4) (T := TX7) (N := 6) (ci := 6) (n := 1) (kc' := 0) (ks' := 0) (rest := [.int 0, .ref 30]) hM rfl rfl h0 kwX7_handIn tw_52 tw_755 tw_756 tw_757 ⟨(by decide : yX7_handIn.cls ≠ "java/lang/invoke/MethodHandle"), (by decide : yX7_handIn.cls ≠ "java/lang/invoke/VarHandle")⟩ (by decide +kernel : (parseMethodDescriptor yX7_handIn.desc).map (fun d => d.parameters.length) = some 1) (Nat.le_of_ble_eq_true rfl) (Nat.le_of_ble_eq_true rfl) (Nat.le_of_ble_eq_true rfl) (Nat.le_of_ble_eq_true rfl) (by exact (Nat.le_of_ble_eq_true rfl)) rfl (List.forall_mem_cons.mpr ⟨rfl, (List.forall_mem_cons.mpr ⟨rfl, fun _ h => nomatch h⟩)⟩) rfl dL_handIn_4 (fun E9 w9 hq _ => ?_) (fun r9 w9 hq _ => ?_)
  · rcases hQ _ _ hq with ⟨v9, f9, e8, -⟩ | ⟨E8, hm, e8⟩
    · cases e8
    rcases List.mem_cons.mp hm with e9 | hm
    · subst e9
      cases e8
      refine ⟨12, ⟨[], (0, 9, 12, 23), [(0, 9, 15, 13)], "java/lang/IndexOutOfBoundsException", rfl, (fun _ h => nomatch h), by decide, by decide, tw_431, tw_442, rfl⟩, ⟨3, 1, Or.inl ⟨3, rfl, rfl, dL_handIn_12⟩, (Nat.le_of_ble_eq_true rfl), (fun x z => by cases z), ?_⟩⟩
      refine r_iconst (pc := 13) (v := 1) dL_handIn_13 (by decide) ?_
      refine r_iret (pc := 14) rfl rfl dL_handIn_14 ?_
      exact Or.inr ⟨_, hq, rfl⟩
    rcases List.mem_cons.mp hm with e9 | hm
    · subst e9
      cases e8
      refine ⟨15, ⟨[(0, 9, 12, 23)], (0, 9, 15, 13), [], "java/lang/IllegalStateException", rfl, List.forall_mem_cons.mpr ⟨⟨(by decide), "java/lang/IndexOutOfBoundsException", tw_431, hN.2.2.2⟩, (fun _ h => nomatch h)⟩, by decide, by decide, tw_249, tw_256, rfl⟩, ⟨3, 1, Or.inl ⟨3, rfl, rfl, dL_handIn_15⟩, (Nat.le_of_ble_eq_true rfl), (fun x z => by cases z), ?_⟩⟩
      refine r_iconst (pc := 16) (v := 2) dL_handIn_16 (by decide) ?_
      refine r_iret (pc := 17) rfl rfl dL_handIn_17 ?_
      exact Or.inr ⟨_, hq, rfl⟩
    cases hm
  · obtain ⟨v9, f9, e8, hf⟩ := (hQ _ _ hq).resolve_right (fun ⟨E8, hm, e8⟩ => by cases e8)
    cases e8
    show AW G fL_handIn 0 0 w9 7 _ [.int v9, .int 0, .ref 30] _
    refine r_i2l (pc := 7) dL_handIn_7 ?_
    refine r_lastore (pc := 8) hf (vp_in_nI (n := 0) (N := 1) (by decide) (by decide)) dL_handIn_8 rfl ?_
    refine r_goto (pc := 9) (tgt := 18) dL_handIn_9 (by decide) ?_
    refine r_iconst (pc := 18) (v := 0) dL_handIn_18 (by decide) ?_
    refine r_iret (pc := 19) rfl rfl dL_handIn_19 ?_
    exact Or.inl ⟨v9, w9, f9, hq, rfl, hf, rfl⟩
set_option maxRecDepth 100000 in
set_option maxHeartbeats 4000000 in
theorem al_stateOf {G : aw_G} (hN : aw_nc G) {w : List va_E} {fs : List Value} (h0 : w[0]? = some (.inr (6, fs))) {Q1 : aw_R → List va_E → Prop} {a : Int32} (hM : AM G fX7_stateOf [.ref 0, .int a] w Q1) (hQ : lE ["java/lang/IndexOutOfBoundsException"] Q1) : AM G fL_stateOf [.ref 0, .int a, .ref 30] w (lq Q1 vlI cd1) := by
  refine AM_ofH (by decide) rfl rfl (Nat.le_of_ble_eq_true rfl) ?_
  show AW G fL_stateOf 1 6 w 0 [some (.ref 0), some (.int a), some (.ref 30), none] [] _
  refine r_aload_n (pc := 0) dL_stateOf_0 rfl rfl ?_
  refine r_iconst (pc := 1) (v := 0) dL_stateOf_1 (by decide) ?_
  refine r_aload_n (pc := 2) dL_stateOf_2 rfl rfl ?_
  refine r_iload_n (pc := 3) dL_stateOf_3 rfl rfl ?_
  refine r_callVH (pc := 4) (T := TX7) (N := 6) (ci := 6) (n := 1) (kc' := 0) (ks' := 0) (rest := [.int 0, .ref 30]) hM rfl rfl h0 kwX7_stateOf tw_52 tw_774 tw_775 tw_776 ⟨(by decide : yX7_stateOf.cls ≠ "java/lang/invoke/MethodHandle"), (by decide : yX7_stateOf.cls ≠ "java/lang/invoke/VarHandle")⟩ (by decide +kernel : (parseMethodDescriptor yX7_stateOf.desc).map (fun d => d.parameters.length) = some 1) (Nat.le_of_ble_eq_true rfl) (Nat.le_of_ble_eq_true rfl) (Nat.le_of_ble_eq_true rfl) (Nat.le_of_ble_eq_true rfl) (by exact (Nat.le_of_ble_eq_true rfl)) rfl (List.forall_mem_cons.mpr ⟨rfl, (List.forall_mem_cons.mpr ⟨rfl, fun _ h => nomatch h⟩)⟩) rfl dL_stateOf_4 (fun E9 w9 hq _ => ?_) (fun r9 w9 hq _ => ?_)
  · rcases hQ _ _ hq with ⟨v9, f9, e8, -⟩ | ⟨E8, hm, e8⟩
    · cases e8
    rcases List.mem_cons.mp hm with e9 | hm
    · subst e9
      cases e8
      refine ⟨12, ⟨[], (0, 9, 12, 23), [], "java/lang/IndexOutOfBoundsException", rfl, (fun _ h => nomatch h), by decide, by decide, tw_431, tw_442, rfl⟩, ⟨3, 1, Or.inl ⟨3, rfl, rfl, dL_stateOf_12⟩, (Nat.le_of_ble_eq_true rfl), (fun x z => by cases z), ?_⟩⟩
      refine r_iconst (pc := 13) (v := 1) dL_stateOf_13 (by decide) ?_
      refine r_iret (pc := 14) rfl rfl dL_stateOf_14 ?_
      exact Or.inr ⟨_, hq, rfl⟩
    cases hm
  · obtain ⟨v9, f9, e8, hf⟩ := (hQ _ _ hq).resolve_right (fun ⟨E8, hm, e8⟩ => by cases e8)
    cases e8
    show AW G fL_stateOf 0 0 w9 7 _ [.int v9, .int 0, .ref 30] _
    refine r_i2l (pc := 7) dL_stateOf_7 ?_
    refine r_lastore (pc := 8) hf (vp_in_nI (n := 0) (N := 1) (by decide) (by decide)) dL_stateOf_8 rfl ?_
    refine r_goto (pc := 9) (tgt := 15) dL_stateOf_9 (by decide) ?_
    refine r_iconst (pc := 15) (v := 0) dL_stateOf_15 (by decide) ?_
    refine r_iret (pc := 16) rfl rfl dL_stateOf_16 ?_
    exact Or.inl ⟨v9, w9, f9, hq, rfl, hf, rfl⟩
set_option maxRecDepth 100000 in
set_option maxHeartbeats 4000000 in
theorem al_versionOf {G : aw_G} (hN : aw_nc G) {w : List va_E} {fs : List Value} (h0 : w[0]? = some (.inr (6, fs))) {Q1 : aw_R → List va_E → Prop} {a : Int32} (hM : AM G fX7_versionOf [.ref 0, .int a] w Q1) (hQ : lE ["java/lang/IndexOutOfBoundsException"] Q1) : AM G fL_versionOf [.ref 0, .int a, .ref 30] w (lq Q1 vlI cd1) := by
  refine AM_ofH (by decide) rfl rfl (Nat.le_of_ble_eq_true rfl) ?_
  show AW G fL_versionOf 1 6 w 0 [some (.ref 0), some (.int a), some (.ref 30), none] [] _
  refine r_aload_n (pc := 0) dL_versionOf_0 rfl rfl ?_
  refine r_iconst (pc := 1) (v := 0) dL_versionOf_1 (by decide) ?_
  refine r_aload_n (pc := 2) dL_versionOf_2 rfl rfl ?_
  refine r_iload_n (pc := 3) dL_versionOf_3 rfl rfl ?_
  refine r_callVH (pc := 4) (T := TX7) (N := 6) (ci := 6) (n := 1) (kc' := 0) (ks' := 0) (rest := [.int 0, .ref 30]) hM rfl rfl h0 kwX7_versionOf tw_52 tw_781 tw_782 tw_783 ⟨(by decide : yX7_versionOf.cls ≠ "java/lang/invoke/MethodHandle"), (by decide : yX7_versionOf.cls ≠ "java/lang/invoke/VarHandle")⟩ (by decide +kernel : (parseMethodDescriptor yX7_versionOf.desc).map (fun d => d.parameters.length) = some 1) (Nat.le_of_ble_eq_true rfl) (Nat.le_of_ble_eq_true rfl) (Nat.le_of_ble_eq_true rfl) (Nat.le_of_ble_eq_true rfl) (by exact (Nat.le_of_ble_eq_true rfl)) rfl (List.forall_mem_cons.mpr ⟨rfl, (List.forall_mem_cons.mpr ⟨rfl, fun _ h => nomatch h⟩)⟩) rfl dL_versionOf_4 (fun E9 w9 hq _ => ?_) (fun r9 w9 hq _ => ?_)
  · rcases hQ _ _ hq with ⟨v9, f9, e8, -⟩ | ⟨E8, hm, e8⟩
    · cases e8
    rcases List.mem_cons.mp hm with e9 | hm
    · subst e9
      cases e8
      refine ⟨12, ⟨[], (0, 9, 12, 23), [], "java/lang/IndexOutOfBoundsException", rfl, (fun _ h => nomatch h), by decide, by decide, tw_431, tw_442, rfl⟩, ⟨3, 1, Or.inl ⟨3, rfl, rfl, dL_versionOf_12⟩, (Nat.le_of_ble_eq_true rfl), (fun x z => by cases z), ?_⟩⟩
      refine r_iconst (pc := 13) (v := 1) dL_versionOf_13 (by decide) ?_
      refine r_iret (pc := 14) rfl rfl dL_versionOf_14 ?_
      exact Or.inr ⟨_, hq, rfl⟩
    cases hm
  · obtain ⟨v9, f9, e8, hf⟩ := (hQ _ _ hq).resolve_right (fun ⟨E8, hm, e8⟩ => by cases e8)
    cases e8
    show AW G fL_versionOf 0 0 w9 7 _ [.int v9, .int 0, .ref 30] _
    refine r_i2l (pc := 7) dL_versionOf_7 ?_
    refine r_lastore (pc := 8) hf (vp_in_nI (n := 0) (N := 1) (by decide) (by decide)) dL_versionOf_8 rfl ?_
    refine r_goto (pc := 9) (tgt := 15) dL_versionOf_9 (by decide) ?_
    refine r_iconst (pc := 15) (v := 0) dL_versionOf_15 (by decide) ?_
    refine r_iret (pc := 16) rfl rfl dL_versionOf_16 ?_
    exact Or.inl ⟨v9, w9, f9, hq, rfl, hf, rfl⟩
set_option maxRecDepth 100000 in
set_option maxHeartbeats 4000000 in
theorem al_value {G : aw_G} (hN : aw_nc G) {w : List va_E} {fs : List Value} (h0 : w[0]? = some (.inr (6, fs))) {Q1 : aw_R → List va_E → Prop} {a b : Int32} (hM : AM G fX7_value [.ref 0, .int a, .int b] w Q1) (hQ : lE ["java/lang/IndexOutOfBoundsException", "java/lang/IllegalStateException"] Q1) : AM G fL_value [.ref 0, .int a, .int b, .ref 30] w (lq Q1 vlI cdT) := by
  refine AM_ofH (by decide) rfl rfl (Nat.le_of_ble_eq_true rfl) ?_
  show AW G fL_value 3 18 w 0 [some (.ref 0), some (.int a), some (.int b), some (.ref 30), none] [] _
  refine r_aload_n (pc := 0) dL_value_0 rfl rfl ?_
  refine r_iconst (pc := 1) (v := 0) dL_value_1 (by decide) ?_
  refine r_aload_n (pc := 2) dL_value_2 rfl rfl ?_
  refine r_iload_n (pc := 3) dL_value_3 rfl rfl ?_
  refine r_iload_n (pc := 4) dL_value_4 rfl rfl ?_
  refine r_callVH (pc := 5) (T := TX7) (N := 6) (ci := 6) (n := 2) (kc' := 0) (ks' := 0) (rest := [.int 0, .ref 30]) hM rfl rfl h0 kwX7_value tw_52 tw_792 tw_793 tw_794 ⟨(by decide : yX7_value.cls ≠ "java/lang/invoke/MethodHandle"), (by decide : yX7_value.cls ≠ "java/lang/invoke/VarHandle")⟩ (by decide +kernel : (parseMethodDescriptor yX7_value.desc).map (fun d => d.parameters.length) = some 2) (Nat.le_of_ble_eq_true rfl) (Nat.le_of_ble_eq_true rfl) (Nat.le_of_ble_eq_true rfl) (Nat.le_of_ble_eq_true rfl) (by exact (Nat.le_of_ble_eq_true rfl)) rfl (List.forall_mem_cons.mpr ⟨rfl, (List.forall_mem_cons.mpr ⟨rfl, (List.forall_mem_cons.mpr ⟨rfl, fun _ h => nomatch h⟩)⟩)⟩) rfl dL_value_5 (fun E9 w9 hq _ => ?_) (fun r9 w9 hq _ => ?_)
  · rcases hQ _ _ hq with ⟨v9, f9, e8, -⟩ | ⟨E8, hm, e8⟩
    · cases e8
    rcases List.mem_cons.mp hm with e9 | hm
    · subst e9
      cases e8
      refine ⟨13, ⟨[], (0, 10, 13, 23), [(0, 10, 17, 13)], "java/lang/IndexOutOfBoundsException", rfl, (fun _ h => nomatch h), by decide, by decide, tw_431, tw_442, rfl⟩, ⟨4, 2, Or.inr ⟨rfl, dL_value_13⟩, (Nat.le_of_ble_eq_true rfl), (fun x z => by cases z), ?_⟩⟩
      refine r_iconst (pc := 15) (v := 1) dL_value_15 (by decide) ?_
      refine r_iret (pc := 16) rfl rfl dL_value_16 ?_
      exact Or.inr ⟨_, hq, rfl⟩
    rcases List.mem_cons.mp hm with e9 | hm
    · subst e9
      cases e8
      refine ⟨17, ⟨[(0, 10, 13, 23)], (0, 10, 17, 13), [], "java/lang/IllegalStateException", rfl, List.forall_mem_cons.mpr ⟨⟨(by decide), "java/lang/IndexOutOfBoundsException", tw_431, hN.2.2.2⟩, (fun _ h => nomatch h)⟩, by decide, by decide, tw_249, tw_256, rfl⟩, ⟨4, 2, Or.inr ⟨rfl, dL_value_17⟩, (Nat.le_of_ble_eq_true rfl), (fun x z => by cases z), ?_⟩⟩
      refine r_iconst (pc := 19) (v := 2) dL_value_19 (by decide) ?_
      refine r_iret (pc := 20) rfl rfl dL_value_20 ?_
      exact Or.inr ⟨_, hq, rfl⟩
    cases hm
  · obtain ⟨v9, f9, e8, hf⟩ := (hQ _ _ hq).resolve_right (fun ⟨E8, hm, e8⟩ => by cases e8)
    cases e8
    show AW G fL_value 0 0 w9 8 _ [.int v9, .int 0, .ref 30] _
    refine r_i2l (pc := 8) dL_value_8 ?_
    refine r_lastore (pc := 9) hf (vp_in_nI (n := 0) (N := 1) (by decide) (by decide)) dL_value_9 rfl ?_
    refine r_goto (pc := 10) (tgt := 21) dL_value_10 (by decide) ?_
    refine r_iconst (pc := 21) (v := 0) dL_value_21 (by decide) ?_
    refine r_iret (pc := 22) rfl rfl dL_value_22 ?_
    exact Or.inl ⟨v9, w9, f9, hq, rfl, hf, rfl⟩
set_option maxRecDepth 100000 in
set_option maxHeartbeats 4000000 in
theorem al_refusal {G : aw_G} (hN : aw_nc G) {w : List va_E} {fs : List Value} (h0 : w[0]? = some (.inr (6, fs))) {Q1 : aw_R → List va_E → Prop} {a : Int32} (hM : AM G fX7_refusal [.ref 0, .int a] w Q1) (hQ : lE ["java/lang/IndexOutOfBoundsException", "java/lang/IllegalStateException"] Q1) : AM G fL_refusal [.ref 0, .int a, .ref 30] w (lq Q1 vlI cdT) := by
  refine AM_ofH (by decide) rfl rfl (Nat.le_of_ble_eq_true rfl) ?_
  show AW G fL_refusal 2 12 w 0 [some (.ref 0), some (.int a), some (.ref 30), none] [] _
  refine r_aload_n (pc := 0) dL_refusal_0 rfl rfl ?_
  refine r_iconst (pc := 1) (v := 0) dL_refusal_1 (by decide) ?_
  refine r_aload_n (pc := 2) dL_refusal_2 rfl rfl ?_
  refine r_iload_n (pc := 3) dL_refusal_3 rfl rfl ?_
  refine r_callVH (pc := 4) (T := TX7) (N := 6) (ci := 6) (n := 1) (kc' := 0) (ks' := 0) (rest := [.int 0, .ref 30]) hM rfl rfl h0 kwX7_refusal tw_52 tw_806 tw_807 tw_808 ⟨(by decide : yX7_refusal.cls ≠ "java/lang/invoke/MethodHandle"), (by decide : yX7_refusal.cls ≠ "java/lang/invoke/VarHandle")⟩ (by decide +kernel : (parseMethodDescriptor yX7_refusal.desc).map (fun d => d.parameters.length) = some 1) (Nat.le_of_ble_eq_true rfl) (Nat.le_of_ble_eq_true rfl) (Nat.le_of_ble_eq_true rfl) (Nat.le_of_ble_eq_true rfl) (by exact (Nat.le_of_ble_eq_true rfl)) rfl (List.forall_mem_cons.mpr ⟨rfl, (List.forall_mem_cons.mpr ⟨rfl, fun _ h => nomatch h⟩)⟩) rfl dL_refusal_4 (fun E9 w9 hq _ => ?_) (fun r9 w9 hq _ => ?_)
  · rcases hQ _ _ hq with ⟨v9, f9, e8, -⟩ | ⟨E8, hm, e8⟩
    · cases e8
    rcases List.mem_cons.mp hm with e9 | hm
    · subst e9
      cases e8
      refine ⟨12, ⟨[], (0, 9, 12, 23), [(0, 9, 15, 13)], "java/lang/IndexOutOfBoundsException", rfl, (fun _ h => nomatch h), by decide, by decide, tw_431, tw_442, rfl⟩, ⟨3, 1, Or.inl ⟨3, rfl, rfl, dL_refusal_12⟩, (Nat.le_of_ble_eq_true rfl), (fun x z => by cases z), ?_⟩⟩
      refine r_iconst (pc := 13) (v := 1) dL_refusal_13 (by decide) ?_
      refine r_iret (pc := 14) rfl rfl dL_refusal_14 ?_
      exact Or.inr ⟨_, hq, rfl⟩
    rcases List.mem_cons.mp hm with e9 | hm
    · subst e9
      cases e8
      refine ⟨15, ⟨[(0, 9, 12, 23)], (0, 9, 15, 13), [], "java/lang/IllegalStateException", rfl, List.forall_mem_cons.mpr ⟨⟨(by decide), "java/lang/IndexOutOfBoundsException", tw_431, hN.2.2.2⟩, (fun _ h => nomatch h)⟩, by decide, by decide, tw_249, tw_256, rfl⟩, ⟨3, 1, Or.inl ⟨3, rfl, rfl, dL_refusal_15⟩, (Nat.le_of_ble_eq_true rfl), (fun x z => by cases z), ?_⟩⟩
      refine r_iconst (pc := 16) (v := 2) dL_refusal_16 (by decide) ?_
      refine r_iret (pc := 17) rfl rfl dL_refusal_17 ?_
      exact Or.inr ⟨_, hq, rfl⟩
    cases hm
  · obtain ⟨v9, f9, e8, hf⟩ := (hQ _ _ hq).resolve_right (fun ⟨E8, hm, e8⟩ => by cases e8)
    cases e8
    show AW G fL_refusal 0 0 w9 7 _ [.int v9, .int 0, .ref 30] _
    refine r_i2l (pc := 7) dL_refusal_7 ?_
    refine r_lastore (pc := 8) hf (vp_in_nI (n := 0) (N := 1) (by decide) (by decide)) dL_refusal_8 rfl ?_
    refine r_goto (pc := 9) (tgt := 18) dL_refusal_9 (by decide) ?_
    refine r_iconst (pc := 18) (v := 0) dL_refusal_18 (by decide) ?_
    refine r_iret (pc := 19) rfl rfl dL_refusal_19 ?_
    exact Or.inl ⟨v9, w9, f9, hq, rfl, hf, rfl⟩
set_option maxRecDepth 100000 in
set_option maxHeartbeats 4000000 in
theorem al_doubt {G : aw_G} (hN : aw_nc G) {w : List va_E} {fs : List Value} (h0 : w[0]? = some (.inr (6, fs))) {Q1 : aw_R → List va_E → Prop} {a b : Int32} (hM : AM G fX7_doubt [.ref 0, .int a, .int b] w Q1) (hQ : lE ["java/lang/IndexOutOfBoundsException", "java/lang/IllegalStateException"] Q1) : AM G fL_doubt [.ref 0, .int a, .int b, .ref 30] w (lq Q1 vlB cdT) := by
  refine AM_ofH (by decide) rfl rfl (Nat.le_of_ble_eq_true rfl) ?_
  show AW G fL_doubt 3 18 w 0 [some (.ref 0), some (.int a), some (.int b), some (.ref 30), none] [] _
  refine r_aload_n (pc := 0) dL_doubt_0 rfl rfl ?_
  refine r_iconst (pc := 1) (v := 0) dL_doubt_1 (by decide) ?_
  refine r_aload_n (pc := 2) dL_doubt_2 rfl rfl ?_
  refine r_iload_n (pc := 3) dL_doubt_3 rfl rfl ?_
  refine r_iload_n (pc := 4) dL_doubt_4 rfl rfl ?_
  refine r_callVH (pc := 5) (T := TX7) (N := 6) (ci := 6) (n := 2) (kc' := 0) (ks' := 0) (rest := [.int 0, .ref 30]) hM rfl rfl h0 kwX7_doubt tw_52 tw_815 tw_816 tw_817 ⟨(by decide : yX7_doubt.cls ≠ "java/lang/invoke/MethodHandle"), (by decide : yX7_doubt.cls ≠ "java/lang/invoke/VarHandle")⟩ (by decide +kernel : (parseMethodDescriptor yX7_doubt.desc).map (fun d => d.parameters.length) = some 2) (Nat.le_of_ble_eq_true rfl) (Nat.le_of_ble_eq_true rfl) (Nat.le_of_ble_eq_true rfl) (Nat.le_of_ble_eq_true rfl) (by exact (Nat.le_of_ble_eq_true rfl)) rfl (List.forall_mem_cons.mpr ⟨rfl, (List.forall_mem_cons.mpr ⟨rfl, (List.forall_mem_cons.mpr ⟨rfl, fun _ h => nomatch h⟩)⟩)⟩) rfl dL_doubt_5 (fun E9 w9 hq _ => ?_) (fun r9 w9 hq _ => ?_)
  · rcases hQ _ _ hq with ⟨v9, f9, e8, -⟩ | ⟨E8, hm, e8⟩
    · cases e8
    rcases List.mem_cons.mp hm with e9 | hm
    · subst e9
      cases e8
      refine ⟨20, ⟨[], (0, 17, 20, 23), [(0, 17, 24, 13)], "java/lang/IndexOutOfBoundsException", rfl, (fun _ h => nomatch h), by decide, by decide, tw_431, tw_442, rfl⟩, ⟨4, 2, Or.inr ⟨rfl, dL_doubt_20⟩, (Nat.le_of_ble_eq_true rfl), (fun x z => by cases z), ?_⟩⟩
      refine r_iconst (pc := 22) (v := 1) dL_doubt_22 (by decide) ?_
      refine r_iret (pc := 23) rfl rfl dL_doubt_23 ?_
      exact Or.inr ⟨_, hq, rfl⟩
    rcases List.mem_cons.mp hm with e9 | hm
    · subst e9
      cases e8
      refine ⟨24, ⟨[(0, 17, 20, 23)], (0, 17, 24, 13), [], "java/lang/IllegalStateException", rfl, List.forall_mem_cons.mpr ⟨⟨(by decide), "java/lang/IndexOutOfBoundsException", tw_431, hN.2.2.2⟩, (fun _ h => nomatch h)⟩, by decide, by decide, tw_249, tw_256, rfl⟩, ⟨4, 2, Or.inr ⟨rfl, dL_doubt_24⟩, (Nat.le_of_ble_eq_true rfl), (fun x z => by cases z), ?_⟩⟩
      refine r_iconst (pc := 26) (v := 2) dL_doubt_26 (by decide) ?_
      refine r_iret (pc := 27) rfl rfl dL_doubt_27 ?_
      exact Or.inr ⟨_, hq, rfl⟩
    cases hm
  · obtain ⟨v9, f9, e8, hf⟩ := (hQ _ _ hq).resolve_right (fun ⟨E8, hm, e8⟩ => by cases e8)
    cases e8
    show AW G fL_doubt 0 0 w9 8 _ [.int v9, .int 0, .ref 30] _
    refine r_if_eq (pc := 8) (tgt := 15) dL_doubt_8 (by decide) (fun h8 => ?_) (fun h8 => ?_)
    · refine r_lconst (pc := 15) dL_doubt_15 rfl ?_
      refine r_lastore (pc := 16) hf (vp_in_nI (n := 0) (N := 1) (by decide) (by decide)) dL_doubt_16 rfl ?_
      refine r_goto (pc := 17) (tgt := 28) dL_doubt_17 (by decide) ?_
      refine r_iconst (pc := 28) (v := 0) dL_doubt_28 (by decide) ?_
      refine r_iret (pc := 29) rfl rfl dL_doubt_29 ?_
      exact Or.inl ⟨v9, w9, f9, hq, rfl, hf, by rw [vlB, if_pos h8]; rfl⟩
    · refine r_lconst (pc := 11) dL_doubt_11 rfl ?_
      refine r_goto (pc := 12) (tgt := 16) dL_doubt_12 (by decide) ?_
      refine r_lastore (pc := 16) hf (vp_in_nI (n := 0) (N := 1) (by decide) (by decide)) dL_doubt_16 rfl ?_
      refine r_goto (pc := 17) (tgt := 28) dL_doubt_17 (by decide) ?_
      refine r_iconst (pc := 28) (v := 0) dL_doubt_28 (by decide) ?_
      refine r_iret (pc := 29) rfl rfl dL_doubt_29 ?_
      exact Or.inl ⟨v9, w9, f9, hq, rfl, hf, by rw [vlB, if_neg h8]; rfl⟩
set_option maxRecDepth 100000 in
set_option maxHeartbeats 4000000 in
theorem al_settle {G : aw_G} (hN : aw_nc G) {w : List va_E} {fs : List Value} (h0 : w[0]? = some (.inr (6, fs))) {Q1 : aw_R → List va_E → Prop} {a b c : Int32} (hM : AM G fX7_settle [.ref 0, .int a, .int b, .int c] w Q1) (hQ : lE ["java/lang/IndexOutOfBoundsException", "java/lang/IllegalStateException"] Q1) : AM G fL_settle [.ref 0, .int a, .int b, .int c, .ref 30] w (lq Q1 vlI cdT) := by
  refine AM_ofH (by decide) rfl rfl (Nat.le_of_ble_eq_true rfl) ?_
  show AW G fL_settle 3 18 w 0 [some (.ref 0), some (.int a), some (.int b), some (.int c), some (.ref 30), none] [] _
  refine r_aload (pc := 0) dL_settle_0 rfl ?_
  refine r_iconst (pc := 2) (v := 0) dL_settle_2 (by decide) ?_
  refine r_aload_n (pc := 3) dL_settle_3 rfl rfl ?_
  refine r_iload_n (pc := 4) dL_settle_4 rfl rfl ?_
  refine r_iload_n (pc := 5) dL_settle_5 rfl rfl ?_
  refine r_iload_n (pc := 6) dL_settle_6 rfl rfl ?_
  refine r_callVH (pc := 7) (T := TX7) (N := 6) (ci := 6) (n := 3) (kc' := 0) (ks' := 0) (rest := [.int 0, .ref 30]) hM rfl rfl h0 kwX7_settle tw_52 tw_831 tw_832 tw_833 ⟨(by decide : yX7_settle.cls ≠ "java/lang/invoke/MethodHandle"), (by decide : yX7_settle.cls ≠ "java/lang/invoke/VarHandle")⟩ (by decide +kernel : (parseMethodDescriptor yX7_settle.desc).map (fun d => d.parameters.length) = some 3) (Nat.le_of_ble_eq_true rfl) (Nat.le_of_ble_eq_true rfl) (Nat.le_of_ble_eq_true rfl) (Nat.le_of_ble_eq_true rfl) (by exact (Nat.le_of_ble_eq_true rfl)) rfl (List.forall_mem_cons.mpr ⟨rfl, (List.forall_mem_cons.mpr ⟨rfl, (List.forall_mem_cons.mpr ⟨rfl, (List.forall_mem_cons.mpr ⟨rfl, fun _ h => nomatch h⟩)⟩)⟩)⟩) rfl dL_settle_7 (fun E9 w9 hq _ => ?_) (fun r9 w9 hq _ => ?_)
  · rcases hQ _ _ hq with ⟨v9, f9, e8, -⟩ | ⟨E8, hm, e8⟩
    · cases e8
    rcases List.mem_cons.mp hm with e9 | hm
    · subst e9
      cases e8
      refine ⟨15, ⟨[], (0, 12, 15, 23), [(0, 12, 19, 13)], "java/lang/IndexOutOfBoundsException", rfl, (fun _ h => nomatch h), by decide, by decide, tw_431, tw_442, rfl⟩, ⟨5, 2, Or.inr ⟨rfl, dL_settle_15⟩, (Nat.le_of_ble_eq_true rfl), (fun x z => by cases z), ?_⟩⟩
      refine r_iconst (pc := 17) (v := 1) dL_settle_17 (by decide) ?_
      refine r_iret (pc := 18) rfl rfl dL_settle_18 ?_
      exact Or.inr ⟨_, hq, rfl⟩
    rcases List.mem_cons.mp hm with e9 | hm
    · subst e9
      cases e8
      refine ⟨19, ⟨[(0, 12, 15, 23)], (0, 12, 19, 13), [], "java/lang/IllegalStateException", rfl, List.forall_mem_cons.mpr ⟨⟨(by decide), "java/lang/IndexOutOfBoundsException", tw_431, hN.2.2.2⟩, (fun _ h => nomatch h)⟩, by decide, by decide, tw_249, tw_256, rfl⟩, ⟨5, 2, Or.inr ⟨rfl, dL_settle_19⟩, (Nat.le_of_ble_eq_true rfl), (fun x z => by cases z), ?_⟩⟩
      refine r_iconst (pc := 21) (v := 2) dL_settle_21 (by decide) ?_
      refine r_iret (pc := 22) rfl rfl dL_settle_22 ?_
      exact Or.inr ⟨_, hq, rfl⟩
    cases hm
  · obtain ⟨v9, f9, e8, hf⟩ := (hQ _ _ hq).resolve_right (fun ⟨E8, hm, e8⟩ => by cases e8)
    cases e8
    show AW G fL_settle 0 0 w9 10 _ [.int v9, .int 0, .ref 30] _
    refine r_i2l (pc := 10) dL_settle_10 ?_
    refine r_lastore (pc := 11) hf (vp_in_nI (n := 0) (N := 1) (by decide) (by decide)) dL_settle_11 rfl ?_
    refine r_goto (pc := 12) (tgt := 23) dL_settle_12 (by decide) ?_
    refine r_iconst (pc := 23) (v := 0) dL_settle_23 (by decide) ?_
    refine r_iret (pc := 24) rfl rfl dL_settle_24 ?_
    exact Or.inl ⟨v9, w9, f9, hq, rfl, hf, rfl⟩
set_option maxRecDepth 100000 in
set_option maxHeartbeats 4000000 in
theorem al_amend {G : aw_G} (hN : aw_nc G) {w : List va_E} {fs : List Value} (h0 : w[0]? = some (.inr (6, fs))) {Q1 : aw_R → List va_E → Prop} {a b c : Int32} (hM : AM G fX7_amend [.ref 0, .int a, .int b, .int c] w Q1) (hQ : lE ["java/lang/IndexOutOfBoundsException", "java/lang/IllegalStateException", "java/lang/IllegalArgumentException"] Q1) : AM G fL_amend [.ref 0, .int a, .int b, .int c, .ref 30] w (lq Q1 vlI cdP) := by
  refine AM_ofH (by decide) rfl rfl (Nat.le_of_ble_eq_true rfl) ?_
  show AW G fL_amend 4 24 w 0 [some (.ref 0), some (.int a), some (.int b), some (.int c), some (.ref 30), none] [] _
  refine r_aload (pc := 0) dL_amend_0 rfl ?_
  refine r_iconst (pc := 2) (v := 0) dL_amend_2 (by decide) ?_
  refine r_aload_n (pc := 3) dL_amend_3 rfl rfl ?_
  refine r_iload_n (pc := 4) dL_amend_4 rfl rfl ?_
  refine r_iload_n (pc := 5) dL_amend_5 rfl rfl ?_
  refine r_iload_n (pc := 6) dL_amend_6 rfl rfl ?_
  refine r_callVH (pc := 7) (T := TX7) (N := 6) (ci := 6) (n := 3) (kc' := 0) (ks' := 0) (rest := [.int 0, .ref 30]) hM rfl rfl h0 kwX7_amend tw_52 tw_847 tw_848 tw_849 ⟨(by decide : yX7_amend.cls ≠ "java/lang/invoke/MethodHandle"), (by decide : yX7_amend.cls ≠ "java/lang/invoke/VarHandle")⟩ (by decide +kernel : (parseMethodDescriptor yX7_amend.desc).map (fun d => d.parameters.length) = some 3) (Nat.le_of_ble_eq_true rfl) (Nat.le_of_ble_eq_true rfl) (Nat.le_of_ble_eq_true rfl) (Nat.le_of_ble_eq_true rfl) (by exact (Nat.le_of_ble_eq_true rfl)) rfl (List.forall_mem_cons.mpr ⟨rfl, (List.forall_mem_cons.mpr ⟨rfl, (List.forall_mem_cons.mpr ⟨rfl, (List.forall_mem_cons.mpr ⟨rfl, fun _ h => nomatch h⟩)⟩)⟩)⟩) rfl dL_amend_7 (fun E9 w9 hq _ => ?_) (fun r9 w9 hq _ => ?_)
  · rcases hQ _ _ hq with ⟨v9, f9, e8, -⟩ | ⟨E8, hm, e8⟩
    · cases e8
    rcases List.mem_cons.mp hm with e9 | hm
    · subst e9
      cases e8
      refine ⟨15, ⟨[], (0, 12, 15, 23), [(0, 12, 19, 13), (0, 12, 23, 25)], "java/lang/IndexOutOfBoundsException", rfl, (fun _ h => nomatch h), by decide, by decide, tw_431, tw_442, rfl⟩, ⟨5, 2, Or.inr ⟨rfl, dL_amend_15⟩, (Nat.le_of_ble_eq_true rfl), (fun x z => by cases z), ?_⟩⟩
      refine r_iconst (pc := 17) (v := 1) dL_amend_17 (by decide) ?_
      refine r_iret (pc := 18) rfl rfl dL_amend_18 ?_
      exact Or.inr ⟨_, hq, rfl⟩
    rcases List.mem_cons.mp hm with e9 | hm
    · subst e9
      cases e8
      refine ⟨19, ⟨[(0, 12, 15, 23)], (0, 12, 19, 13), [(0, 12, 23, 25)], "java/lang/IllegalStateException", rfl, List.forall_mem_cons.mpr ⟨⟨(by decide), "java/lang/IndexOutOfBoundsException", tw_431, hN.2.2.2⟩, (fun _ h => nomatch h)⟩, by decide, by decide, tw_249, tw_256, rfl⟩, ⟨5, 2, Or.inr ⟨rfl, dL_amend_19⟩, (Nat.le_of_ble_eq_true rfl), (fun x z => by cases z), ?_⟩⟩
      refine r_iconst (pc := 21) (v := 2) dL_amend_21 (by decide) ?_
      refine r_iret (pc := 22) rfl rfl dL_amend_22 ?_
      exact Or.inr ⟨_, hq, rfl⟩
    rcases List.mem_cons.mp hm with e9 | hm
    · subst e9
      cases e8
      refine ⟨23, ⟨[(0, 12, 15, 23), (0, 12, 19, 13)], (0, 12, 23, 25), [], "java/lang/IllegalArgumentException", rfl, List.forall_mem_cons.mpr ⟨⟨(by decide), "java/lang/IndexOutOfBoundsException", tw_431, hN.2.1⟩, List.forall_mem_cons.mpr ⟨⟨(by decide), "java/lang/IllegalStateException", tw_249, hN.1⟩, (fun _ h => nomatch h)⟩⟩, by decide, by decide, tw_432, tw_458, rfl⟩, ⟨5, 2, Or.inr ⟨rfl, dL_amend_23⟩, (Nat.le_of_ble_eq_true rfl), (fun x z => by cases z), ?_⟩⟩
      refine r_iconst (pc := 25) (v := 3) dL_amend_25 (by decide) ?_
      refine r_iret (pc := 26) rfl rfl dL_amend_26 ?_
      exact Or.inr ⟨_, hq, rfl⟩
    cases hm
  · obtain ⟨v9, f9, e8, hf⟩ := (hQ _ _ hq).resolve_right (fun ⟨E8, hm, e8⟩ => by cases e8)
    cases e8
    show AW G fL_amend 0 0 w9 10 _ [.int v9, .int 0, .ref 30] _
    refine r_i2l (pc := 10) dL_amend_10 ?_
    refine r_lastore (pc := 11) hf (vp_in_nI (n := 0) (N := 1) (by decide) (by decide)) dL_amend_11 rfl ?_
    refine r_goto (pc := 12) (tgt := 27) dL_amend_12 (by decide) ?_
    refine r_iconst (pc := 27) (v := 0) dL_amend_27 (by decide) ?_
    refine r_iret (pc := 28) rfl rfl dL_amend_28 ?_
    exact Or.inl ⟨v9, w9, f9, hq, rfl, hf, rfl⟩
set_option maxRecDepth 100000 in
set_option maxHeartbeats 4000000 in
theorem al_doubts {G : aw_G} (hN : aw_nc G) {w : List va_E} {fs : List Value} (h0 : w[0]? = some (.inr (6, fs))) {Q1 : aw_R → List va_E → Prop} {a : Int32} (hM : AM G fX7_doubts [.ref 0, .int a] w Q1) (hQ : lE ["java/lang/IndexOutOfBoundsException"] Q1) : AM G fL_doubts [.ref 0, .int a, .ref 30] w (lq Q1 vlI cd1) := by
  refine AM_ofH (by decide) rfl rfl (Nat.le_of_ble_eq_true rfl) ?_
  show AW G fL_doubts 1 6 w 0 [some (.ref 0), some (.int a), some (.ref 30), none] [] _
  refine r_aload_n (pc := 0) dL_doubts_0 rfl rfl ?_
  refine r_iconst (pc := 1) (v := 0) dL_doubts_1 (by decide) ?_
  refine r_aload_n (pc := 2) dL_doubts_2 rfl rfl ?_
  refine r_iload_n (pc := 3) dL_doubts_3 rfl rfl ?_
  refine r_callVH (pc := 4) (T := TX7) (N := 6) (ci := 6) (n := 1) (kc' := 0) (ks' := 0) (rest := [.int 0, .ref 30]) hM rfl rfl h0 kwX7_doubts tw_52 tw_855 tw_856 tw_857 ⟨(by decide : yX7_doubts.cls ≠ "java/lang/invoke/MethodHandle"), (by decide : yX7_doubts.cls ≠ "java/lang/invoke/VarHandle")⟩ (by decide +kernel : (parseMethodDescriptor yX7_doubts.desc).map (fun d => d.parameters.length) = some 1) (Nat.le_of_ble_eq_true rfl) (Nat.le_of_ble_eq_true rfl) (Nat.le_of_ble_eq_true rfl) (Nat.le_of_ble_eq_true rfl) (by exact (Nat.le_of_ble_eq_true rfl)) rfl (List.forall_mem_cons.mpr ⟨rfl, (List.forall_mem_cons.mpr ⟨rfl, fun _ h => nomatch h⟩)⟩) rfl dL_doubts_4 (fun E9 w9 hq _ => ?_) (fun r9 w9 hq _ => ?_)
  · rcases hQ _ _ hq with ⟨v9, f9, e8, -⟩ | ⟨E8, hm, e8⟩
    · cases e8
    rcases List.mem_cons.mp hm with e9 | hm
    · subst e9
      cases e8
      refine ⟨12, ⟨[], (0, 9, 12, 23), [], "java/lang/IndexOutOfBoundsException", rfl, (fun _ h => nomatch h), by decide, by decide, tw_431, tw_442, rfl⟩, ⟨3, 1, Or.inl ⟨3, rfl, rfl, dL_doubts_12⟩, (Nat.le_of_ble_eq_true rfl), (fun x z => by cases z), ?_⟩⟩
      refine r_iconst (pc := 13) (v := 1) dL_doubts_13 (by decide) ?_
      refine r_iret (pc := 14) rfl rfl dL_doubts_14 ?_
      exact Or.inr ⟨_, hq, rfl⟩
    cases hm
  · obtain ⟨v9, f9, e8, hf⟩ := (hQ _ _ hq).resolve_right (fun ⟨E8, hm, e8⟩ => by cases e8)
    cases e8
    show AW G fL_doubts 0 0 w9 7 _ [.int v9, .int 0, .ref 30] _
    refine r_i2l (pc := 7) dL_doubts_7 ?_
    refine r_lastore (pc := 8) hf (vp_in_nI (n := 0) (N := 1) (by decide) (by decide)) dL_doubts_8 rfl ?_
    refine r_goto (pc := 9) (tgt := 15) dL_doubts_9 (by decide) ?_
    refine r_iconst (pc := 15) (v := 0) dL_doubts_15 (by decide) ?_
    refine r_iret (pc := 16) rfl rfl dL_doubts_16 ?_
    exact Or.inl ⟨v9, w9, f9, hq, rfl, hf, rfl⟩
end L1
