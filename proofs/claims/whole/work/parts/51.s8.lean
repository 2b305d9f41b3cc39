/-! ===== the class: new cells; a Formula is made ===== -/
section S8
theorem n_X0 {G : aw_G} {F : aw_F} {kc ks kc' ks' : Nat} {w : List va_E} {pc index : Nat} {loc : List (Option Value)} {st : List Value} {Q : aw_R → List va_E → Prop} (hcl : Cond.classLink (aw_own F) index RX0 ∈ aw_ztb) (hkc9 : kc' + 1 ≤ kc) (hks9 : ks' + 5 ≤ ks) (hdg : decode (aw_c F) pc = .ok (.new index, 3)) (kk : AW G F kc' ks' (w ++ [.inr (0, [.int 0, .null, .null, .int 0, .int 0])]) (pc + 3) loc (.ref w.length :: st) Q) : AW G F kc ks w pc loc st Q :=
  r_new (ci := 0) (C := RX0) (T := TX0) (N := 5) (ty0 := tyX0) (fs := [.int 0, .null, .null, .int 0, .int 0]) rfl in_X0 tyX0_ok hcl tw_623 tw_68 (by decide) (fun _ => rfl) (fun n v h i hi => by rw [hi] at h; simp at h) hkc9 hks9 hdg kk
theorem n_X1 {G : aw_G} {F : aw_F} {kc ks kc' ks' : Nat} {w : List va_E} {pc index : Nat} {loc : List (Option Value)} {st : List Value} {Q : aw_R → List va_E → Prop} (hcl : Cond.classLink (aw_own F) index RX1 ∈ aw_ztb) (hkc9 : kc' + 1 ≤ kc) (hks9 : ks' + 3 ≤ ks) (hdg : decode (aw_c F) pc = .ok (.new index, 3)) (kk : AW G F kc' ks' (w ++ [.inr (1, [.null, .null, .null])]) (pc + 3) loc (.ref w.length :: st) Q) : AW G F kc ks w pc loc st Q :=
  r_new (ci := 1) (C := RX1) (T := TX1) (N := 3) (ty0 := tyX1) (fs := [.null, .null, .null]) rfl in_X1 tyX1_ok hcl tw_112 tw_54 (by decide) (fun _ => rfl) (fun n v h i hi => by rw [hi] at h; simp at h) hkc9 hks9 hdg kk
theorem n_X2 {G : aw_G} {F : aw_F} {kc ks kc' ks' : Nat} {w : List va_E} {pc index : Nat} {loc : List (Option Value)} {st : List Value} {Q : aw_R → List va_E → Prop} (hcl : Cond.classLink (aw_own F) index RX2 ∈ aw_ztb) (hkc9 : kc' + 1 ≤ kc) (hks9 : ks' + 4 ≤ ks) (hdg : decode (aw_c F) pc = .ok (.new index, 3)) (kk : AW G F kc' ks' (w ++ [.inr (2, [.null, .null, .null, .int 0])]) (pc + 3) loc (.ref w.length :: st) Q) : AW G F kc ks w pc loc st Q :=
  r_new (ci := 2) (C := RX2) (T := TX2) (N := 4) (ty0 := tyX2) (fs := [.null, .null, .null, .int 0]) rfl in_X2 tyX2_ok hcl tw_339 tw_62 (by decide) (fun _ => rfl) (fun n v h i hi => by rw [hi] at h; simp at h) hkc9 hks9 hdg kk
theorem n_X4 {G : aw_G} {F : aw_F} {kc ks kc' ks' : Nat} {w : List va_E} {pc index : Nat} {loc : List (Option Value)} {st : List Value} {Q : aw_R → List va_E → Prop} (hcl : Cond.classLink (aw_own F) index RX4 ∈ aw_ztb) (hkc9 : kc' + 1 ≤ kc) (hks9 : ks' + 8 ≤ ks) (hdg : decode (aw_c F) pc = .ok (.new index, 3)) (kk : AW G F kc' ks' (w ++ [.inr (3, [.null, .int 0, .int 0, .null, .int 0, .null, .int 0, .int 0])]) (pc + 3) loc (.ref w.length :: st) Q) : AW G F kc ks w pc loc st Q :=
  r_new (ci := 3) (C := RX4) (T := TX4) (N := 8) (ty0 := tyX4) (fs := [.null, .int 0, .int 0, .null, .int 0, .null, .int 0, .int 0]) rfl in_X4 tyX4_ok hcl tw_79 tw_53 (by decide) (fun _ => rfl) (fun n v h i hi => by rw [hi] at h; simp at h) hkc9 hks9 hdg kk
theorem n_X5 {G : aw_G} {F : aw_F} {kc ks kc' ks' : Nat} {w : List va_E} {pc index : Nat} {loc : List (Option Value)} {st : List Value} {Q : aw_R → List va_E → Prop} (hcl : Cond.classLink (aw_own F) index RX5 ∈ aw_ztb) (hkc9 : kc' + 1 ≤ kc) (hks9 : ks' + 1 ≤ ks) (hdg : decode (aw_c F) pc = .ok (.new index, 3)) (kk : AW G F kc' ks' (w ++ [.inr (4, [.null])]) (pc + 3) loc (.ref w.length :: st) Q) : AW G F kc ks w pc loc st Q :=
  r_new (ci := 4) (C := RX5) (T := TX5) (N := 1) (ty0 := tyX5) (fs := [.null]) rfl in_X5 tyX5_ok hcl tw_120 tw_56 (by decide) (fun _ => rfl) (fun n v h i hi => by rw [hi] at h; simp at h) hkc9 hks9 hdg kk
theorem n_X6 {G : aw_G} {F : aw_F} {kc ks kc' ks' : Nat} {w : List va_E} {pc index : Nat} {loc : List (Option Value)} {st : List Value} {Q : aw_R → List va_E → Prop} (hcl : Cond.classLink (aw_own F) index RX6 ∈ aw_ztb) (hkc9 : kc' + 1 ≤ kc) (hks9 : ks' + 2 ≤ ks) (hdg : decode (aw_c F) pc = .ok (.new index, 3)) (kk : AW G F kc' ks' (w ++ [.inr (5, [.null, .int 0])]) (pc + 3) loc (.ref w.length :: st) Q) : AW G F kc ks w pc loc st Q :=
  r_new (ci := 5) (C := RX6) (T := TX6) (N := 2) (ty0 := tyX6) (fs := [.null, .int 0]) rfl in_X6 tyX6_ok hcl tw_674 tw_69 (by decide) (fun _ => rfl) (fun n v h i hi => by rw [hi] at h; simp at h) hkc9 hks9 hdg kk
theorem n_X7 {G : aw_G} {F : aw_F} {kc ks kc' ks' : Nat} {w : List va_E} {pc index : Nat} {loc : List (Option Value)} {st : List Value} {Q : aw_R → List va_E → Prop} (hcl : Cond.classLink (aw_own F) index RX7 ∈ aw_ztb) (hkc9 : kc' + 1 ≤ kc) (hks9 : ks' + 6 ≤ ks) (hdg : decode (aw_c F) pc = .ok (.new index, 3)) (kk : AW G F kc' ks' (w ++ [.inr (6, [.null, .null, .null, .int 0, .null, .int 0])]) (pc + 3) loc (.ref w.length :: st) Q) : AW G F kc ks w pc loc st Q :=
  r_new (ci := 6) (C := RX7) (T := TX7) (N := 6) (ty0 := tyX7) (fs := [.null, .null, .null, .int 0, .null, .int 0]) rfl in_X7 tyX7_ok hcl tw_71 tw_52 (by decide) (fun _ => rfl) (fun n v h i hi => by rw [hi] at h; simp at h) hkc9 hks9 hdg kk
theorem n_X8 {G : aw_G} {F : aw_F} {kc ks kc' ks' : Nat} {w : List va_E} {pc index : Nat} {loc : List (Option Value)} {st : List Value} {Q : aw_R → List va_E → Prop} (hcl : Cond.classLink (aw_own F) index RX8 ∈ aw_ztb) (hkc9 : kc' + 1 ≤ kc) (hks9 : ks' + 26 ≤ ks) (hdg : decode (aw_c F) pc = .ok (.new index, 3)) (kk : AW G F kc' ks' (w ++ [.inr (7, [.null, .int 0, .null, .null, .null, .int 0, .int 0, .null, .null, .null, .null, .null, .int 0, .null, .int 0, .null, .int 0, .null, .int 0, .null, .int 0, .null, .null, .null, .int 0, .null])]) (pc + 3) loc (.ref w.length :: st) Q) : AW G F kc ks w pc loc st Q :=
  r_new (ci := 7) (C := RX8) (T := TX8) (N := 26) (ty0 := tyX8) (fs := [.null, .int 0, .null, .null, .null, .int 0, .int 0, .null, .null, .null, .null, .null, .int 0, .null, .int 0, .null, .int 0, .null, .int 0, .null, .int 0, .null, .null, .null, .int 0, .null]) rfl in_X8 tyX8_ok hcl tw_864 tw_57 (by decide) (fun _ => rfl) (fun n v h i hi => by rw [hi] at h; simp at h) hkc9 hks9 hdg kk
theorem aw_kC {G : aw_G} {F : aw_F} {kc ks : Nat} {w : List va_E} {pc : Nat} {loc : List (Option Value)} {rest : List Value} {Q : aw_R → List va_E → Prop} {n : Nat} {f : Nat → Int32} (h : ∀ g : Nat → Int32, (∀ i, i < n → g i = f i) → AW G F kc ks (w ++ [.inl (0, n, .inl g)]) pc loc (.ref w.length :: rest) Q) : ∀ (r : Option Value) (w' : List va_E), cpQ w n f (.inl r) w' → w.length ≤ w'.length → AW G F kc ks w' pc loc (r.toList ++ rest) Q := by
  rintro r w' ⟨g, e, rfl, hg⟩ -
  cases e
  exact h g hg
theorem aw_tC {w : List va_E} {Q : aw_R → List va_E → Prop} {n : Nat} {f : Nat → Int32} : ∀ (E : String) (w' : List va_E), cpQ w n f (.inr E) w' → w.length ≤ w'.length → Q (.inr E) w' := by
  rintro E w' ⟨g, e, -⟩ -
  cases e
theorem arow_cp {f g : Nat → Int32} {r : List Int32} (h : arow f r) (hg : ∀ i, i < r.length → g i = f i) : arow g r := fun i x hx => by rw [hg i (List.getElem?_eq_some_iff.mp hx).1]; exact h i x hx
/-- a Formula's four cells -/
def fmlC (a n m : Nat) (lt : Int32) (g1 g2 g3 : Nat → Int32) : List va_E := [.inr (2, [.ref (a + 1), .ref (a + 3), .ref (a + 2), .int lt]), .inl (0, n, .inl g1), .inl (0, m, .inl g2), .inl (0, n, .inl g3)]
def mdQ (w : List va_E) (lt : Int32) (Y X : List Int32) : aw_R → List va_E → Prop := fun r w' => ∃ g1 g2 : Nat → Int32, r = .inl (some (.ref w.length)) ∧ w' = w ++ fmlC w.length Y.length X.length lt g1 g2 (fun _ => 0) ∧ arow g1 Y ∧ arow g2 X
theorem ac_init2w {G : aw_G} {w : List va_E} {n m : Nat} {g1 g2 : Nat → Int32} {lt : Int32} (hn : n ≤ 40) : AM G fX2_init [.ref w.length, .ref (w.length + 1), .ref (w.length + 2), .int lt] (w ++ [.inr (2, [.null, .null, .null, .int 0]), .inl (0, n, .inl g1), .inl (0, m, .inl g2)]) (qx (.inl none) (w ++ fmlC w.length n m lt g1 g2 (fun _ => 0))) := by
  have h9 := ac_init2 (G := G) (w := w ++ [.inr (2, [.null, .null, .null, .int 0]), .inl (0, n, .inl g1), .inl (0, m, .inl g2)]) (a := w.length) (b := w.length + 1) (c := w.length + 2) (n := n) (f := g1) (lt := lt) (by rw [List.getElem?_append_right (Nat.le_refl _), Nat.sub_self]; rfl) (by rw [List.getElem?_append_right (by omega), Nat.add_sub_cancel_left]; rfl) hn
  have e : (w ++ [.inr (2, [.null, .null, .null, .int 0]), .inl (0, n, .inl g1), .inl (0, m, .inl g2)] : List va_E).length = w.length + 3 := by simp
  rw [e, List.set_append_right _ _ (Nat.le_refl _), Nat.sub_self] at h9
  rw [show w ++ fmlC w.length n m lt g1 g2 (fun _ => 0) = w ++ [.inr (2, [.ref (w.length + 1), .ref (w.length + 3), .ref (w.length + 2), .int lt]), .inl (0, n, .inl g1), .inl (0, m, .inl g2)] ++ [.inl (0, n, .inl (fun _ => 0))] by simp [fmlC]]
  exact h9
set_option maxRecDepth 100000 in
set_option maxHeartbeats 4000000 in
theorem ac_made {G : aw_G} {c0 : va_E} {tx : Nat → Int32} {tn p : Nat} {lt : Int32} {st pn : Nat → Int32} {tl : List va_E} {Y X : List Int32} (hY : arow st Y) (hX : arow pn X) (hYl : Y.length ≤ 40) (hXl : X.length ≤ 80) : AM G fX4_made [.ref 1] (sW c0 tx tn p Y.length X.length lt st pn tl) (mdQ (sW c0 tx tn p Y.length X.length lt st pn tl) lt Y X) := by
  refine AM_of (by decide) rfl rfl (Nat.le_of_ble_eq_true rfl) ?_
  show AW G fX4_made 6 364 (sW c0 tx tn p Y.length X.length lt st pn tl) 0 [some (.ref 1)] [] _
  refine n_X2 (pc := 0) (index := 42) (kc' := 5) (ks' := 360) tw_338 (Nat.le_of_ble_eq_true rfl) (Nat.le_of_ble_eq_true rfl) dX4_made_0 ?_
  refine r_dup (pc := 3) dX4_made_3 rfl ?_
  refine r_aload_n (pc := 4) dX4_made_4 rfl rfl ?_
  show AW G fX4_made _ _ (sW c0 tx tn p Y.length X.length lt st pn (tl ++ [.inr (2, [.null, .null, .null, .int 0])])) _ _ _ _
  refine sg_22 (pc := 5) rfl dX4_made_5 ?_
  refine r_aload_n (pc := 8) dX4_made_8 rfl rfl ?_
  show AW G fX4_made _ _ (sW c0 tx tn p Y.length X.length lt st pn (tl ++ [.inr (2, [.null, .null, .null, .int 0])])) _ _ _ _
  refine sg_26 (pc := 9) rfl dX4_made_9 ?_
  refine s_X4_44 (pc := 12) (kc' := 3) (ks' := 200) rfl rfl (ac_copyOf (f := st) (m := 40) rfl hYl (by omega)) (Nat.le_of_ble_eq_true rfl) (Nat.le_of_ble_eq_true rfl) (Nat.le_of_ble_eq_true rfl) (Nat.le_of_ble_eq_true rfl) (by exact (Nat.le_of_ble_eq_true rfl)) rfl (List.forall_mem_cons.mpr ⟨rfl, (List.forall_mem_cons.mpr ⟨rfl, fun _ h => nomatch h⟩)⟩) rfl dX4_made_12 aw_tC (aw_kC (fun g1 hg1 => ?_))
  refine r_aload_n (pc := 15) dX4_made_15 rfl rfl ?_
  show AW G fX4_made _ _ (sW c0 tx tn p Y.length X.length lt st pn (tl ++ [.inr (2, [.null, .null, .null, .int 0])] ++ [.inl (0, Y.length, .inl g1)])) _ _ _ _
  refine sg_29 (pc := 16) rfl dX4_made_16 ?_
  refine r_aload_n (pc := 19) dX4_made_19 rfl rfl ?_
  show AW G fX4_made _ _ (sW c0 tx tn p Y.length X.length lt st pn (tl ++ [.inr (2, [.null, .null, .null, .int 0])] ++ [.inl (0, Y.length, .inl g1)])) _ _ _ _
  refine sg_32 (pc := 20) rfl dX4_made_20 ?_
  refine s_X4_44 (pc := 23) (kc' := 1) (ks' := 40) rfl rfl (ac_copyOf (f := pn) (m := 80) rfl hXl (by omega)) (Nat.le_of_ble_eq_true rfl) (Nat.le_of_ble_eq_true rfl) (Nat.le_of_ble_eq_true rfl) (Nat.le_of_ble_eq_true rfl) (by exact (Nat.le_of_ble_eq_true rfl)) rfl (List.forall_mem_cons.mpr ⟨rfl, (List.forall_mem_cons.mpr ⟨rfl, fun _ h => nomatch h⟩)⟩) rfl dX4_made_23 aw_tC (aw_kC (fun g2 hg2 => ?_))
  refine r_aload_n (pc := 26) dX4_made_26 rfl rfl ?_
  show AW G fX4_made _ _ (sW c0 tx tn p Y.length X.length lt st pn (tl ++ [.inr (2, [.null, .null, .null, .int 0])] ++ [.inl (0, Y.length, .inl g1)] ++ [.inl (0, X.length, .inl g2)])) _ _ _ _
  refine sg_35 (pc := 27) rfl dX4_made_27 ?_
  have e1 : (sW c0 tx tn p Y.length X.length lt st pn (tl ++ [.inr (2, [.null, .null, .null, .int 0])] ++ [.inl (0, Y.length, .inl g1)] ++ [.inl (0, X.length, .inl g2)])) = (sW c0 tx tn p Y.length X.length lt st pn tl) ++ [.inr (2, [.null, .null, .null, .int 0]), .inl (0, Y.length, .inl g1), .inl (0, X.length, .inl g2)] := by simp [sW]
  have e2 : (sW c0 tx tn p Y.length X.length lt st pn (tl ++ [.inr (2, [.null, .null, .null, .int 0])])).length = (sW c0 tx tn p Y.length X.length lt st pn tl).length + 1 := by simp [sW]
  have e3 : (sW c0 tx tn p Y.length X.length lt st pn (tl ++ [.inr (2, [.null, .null, .null, .int 0])] ++ [.inl (0, Y.length, .inl g1)])).length = (sW c0 tx tn p Y.length X.length lt st pn tl).length + 2 := by simp [sW]
  have goal9 : AW G fX4_made 1 40 ((sW c0 tx tn p Y.length X.length lt st pn tl) ++ [.inr (2, [.null, .null, .null, .int 0]), .inl (0, Y.length, .inl g1), .inl (0, X.length, .inl g2)]) 30 [some (.ref 1)] [.int lt, .ref ((sW c0 tx tn p Y.length X.length lt st pn tl).length + 2), .ref ((sW c0 tx tn p Y.length X.length lt st pn tl).length + 1), .ref (sW c0 tx tn p Y.length X.length lt st pn tl).length, .ref (sW c0 tx tn p Y.length X.length lt st pn tl).length] (mdQ (sW c0 tx tn p Y.length X.length lt st pn tl) lt Y X) := by
    refine s_X4_50 (pc := 30) (kc' := 0) (ks' := 0) (rest := [.ref (sW c0 tx tn p Y.length X.length lt st pn tl).length]) rfl rfl (ac_init2w hYl) (Nat.le_of_ble_eq_true rfl) (Nat.le_of_ble_eq_true rfl) (Nat.le_of_ble_eq_true rfl) (Nat.le_of_ble_eq_true rfl) (by exact (Nat.le_of_ble_eq_true rfl)) rfl (List.forall_mem_cons.mpr ⟨rfl, (List.forall_mem_cons.mpr ⟨rfl, (List.forall_mem_cons.mpr ⟨rfl, (List.forall_mem_cons.mpr ⟨rfl, fun _ h => nomatch h⟩)⟩)⟩)⟩) rfl dX4_made_30 aw_kt (aw_kv ?_)
    refine r_aret (pc := 33) rfl (Or.inl ⟨_, rfl⟩) (Or.inr ⟨_, rfl⟩) dX4_made_33 ?_
    exact ⟨g1, g2, rfl, rfl, arow_cp hY hg1, arow_cp hX hg2⟩
  rw [← e1, ← e2, ← e3] at goal9
  exact goal9
end S8
