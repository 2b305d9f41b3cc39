/-! ===== the class: a Form: takeBroken, frozen, fieldsThatFall ===== -/
section S22
def DA (ow : Nat → Nat) (w : List va_E) (t x : Nat) (Rd : Nat → List Int32) : Prop := ∃ dd : Nat → Option Nat, cl ow w t x (.inl (5, 10, .inr (.inr (.inr (.inr dd))))) ∧ ∀ k, k < 10 → FO ow w (dd k) (Rd k)
theorem DA_kp {ow ow' : Nat → Nat} {ts : List Nat} {w w' : List va_E} {t x : Nat} {Rd : Nat → List Int32} (h : DA ow w t x Rd) (k : kp ow ow' ts w w') (ht : t ∉ ts) (h0 : 0 ∉ ts) : DA ow' w' t x Rd := by
  obtain ⟨dd, h1, h2⟩ := h
  exact ⟨dd, cl_kp h1 k ht, fun j hj => FO_kp (h2 j hj) k h0⟩
theorem DA_cong {ow : Nat → Nat} {w : List va_E} {t x : Nat} {Rd Rd' : Nat → List Int32} (h : DA ow w t x Rd) (e : ∀ k, k < 10 → Rd k = Rd' k) : DA ow w t x Rd' := by
  obtain ⟨dd, h1, h2⟩ := h
  exact ⟨dd, h1, fun j hj => by rw [← e j hj]; exact h2 j hj⟩
theorem FM_cong {ow : Nat → Nat} {w : List va_E} {t a y q o h : Nat} {ty : Nat → Int32} {R6 R6' : Nat → List Int32} {gd : Nat → Option Nat} (hM : FM ow w t a y q o h ty R6 gd) (e : ∀ k, k < 10 → R6 k = R6' k) : FM ow w t a y q o h ty R6' gd :=
  ⟨hM.1, hM.2.1, hM.2.2.1, fun k hk => by rw [← e k hk]; exact hM.2.2.2.1 k hk, hM.2.2.2.2⟩
theorem FO_up {ow : Nat → Nat} {w : List va_E} {gd : Nat → Option Nat} {R6 : Nat → List Int32} {k : Nat} {x : Option Nat} {row : List Int32} (h : ∀ j, j < 10 → FO ow w (gd j) (R6 j)) (hx : FO ow w x row) : ∀ j, j < 10 → FO ow w (va_up gd k x j) (va_up R6 k row j) := by
  intro j hj
  by_cases e : j = k
  · subst e; rw [va_up_self, va_up_self]; exact hx
  · rw [va_up_ne _ _ e, va_up_ne _ _ e]; exact h j hj
theorem FM_give {ow : Nat → Nat} {w : List va_E} {t a y q o h : Nat} {ty : Nat → Int32} {R6 : Nat → List Int32} {gd : Nat → Option Nat} (hM : FM ow w t a y q o h ty R6 gd) (ht : t ≠ 1) (h0 : t ≠ 0) {k : Nat} {x : Option Nat} {row : List Int32} (hx : FO ow w x row) : FM ow (w.set o (.inl (5, 10, .inr (.inr (.inr (.inr (va_up gd k x))))))) t a y q o h ty (va_up R6 k row) (va_up gd k x) := by
  obtain ⟨h1, ⟨h2, td0, h3, h4⟩, h5, h6, td1, h7⟩ := hM
  have hk : kp ow ow [t] w (w.set o (.inl (5, 10, .inr (.inr (.inr (.inr (va_up gd k x))))))) := kp_set h5.1 (List.mem_singleton.mpr rfl) ht
  have h00 : 0 ∉ [t] := fun z => h0 (List.mem_singleton.mp z).symm
  refine ⟨cl_ne h1 (fun z => ?_), ⟨cl_ne h2 (fun z => ?_), td0, cl_ne h3 (fun z => ?_), h4⟩, cl_set h5, FO_up (fun j hj => FO_kp (h6 j hj) hk h00) (FO_kp hx hk h00), td1, cl_ne h7 (fun z => ?_)⟩
  · have := h5.2; rw [z, h1.2] at this; cases this
  · have := h5.2; rw [z, h2.2] at this; cases this
  · have := h5.2; rw [z, h3.2] at this; cases this
  · have := h5.2; rw [z, h7.2] at this; cases this
def tbR (ty : Nat → Int32) (R6 : Nat → List Int32) (k : Nat) : Nat → List Int32 := fun j => if j < k ∧ brkF ty (R6 j) j = true then [] else R6 j
def tbD (ty : Nat → Int32) (R6 : Nat → List Int32) (k : Nat) : Nat → List Int32 := fun j => if j < k ∧ brkF ty (R6 j) j = true then R6 j else []
theorem tbR_at {ty : Nat → Int32} {R6 : Nat → List Int32} {k : Nat} : tbR ty R6 k k = R6 k := if_neg (fun z => Nat.lt_irrefl _ z.1)
theorem tb_same {ty : Nat → Int32} {R6 : Nat → List Int32} {k : Nat} (hb : brkF ty (R6 k) k = false) : tbR ty R6 (k + 1) = tbR ty R6 k ∧ tbD ty R6 (k + 1) = tbD ty R6 k := by
  have key : ∀ j, (j < k + 1 ∧ brkF ty (R6 j) j = true) = (j < k ∧ brkF ty (R6 j) j = true) := fun j => by
    refine propext ⟨fun z => ⟨?_, z.2⟩, fun z => ⟨by omega, z.2⟩⟩
    rcases Nat.lt_or_ge j k with e | e
    · exact e
    · have : j = k := by omega
      subst this; rw [hb] at z; cases z.2
  constructor
  · funext j; unfold tbR; simp only [key j]
  · funext j; unfold tbD; simp only [key j]
theorem tb_up {ty : Nat → Int32} {R6 : Nat → List Int32} {k : Nat} (hb : brkF ty (R6 k) k = true) : tbR ty R6 (k + 1) = va_up (tbR ty R6 k) k [] ∧ tbD ty R6 (k + 1) = va_up (tbD ty R6 k) k (R6 k) := by
  constructor <;> funext j
  · by_cases e : j = k
    · subst e; rw [va_up_self]; exact if_pos ⟨Nat.lt_succ_self _, hb⟩
    · rw [va_up_ne _ _ e]
      have key : (j < k + 1 ∧ brkF ty (R6 j) j = true) = (j < k ∧ brkF ty (R6 j) j = true) := propext ⟨fun z => ⟨by omega, z.2⟩, fun z => ⟨by omega, z.2⟩⟩
      unfold tbR; simp only [key]
  · by_cases e : j = k
    · subst e; rw [va_up_self]; exact if_pos ⟨Nat.lt_succ_self _, hb⟩
    · rw [va_up_ne _ _ e]
      have key : (j < k + 1 ∧ brkF ty (R6 j) j = true) = (j < k ∧ brkF ty (R6 j) j = true) := propext ⟨fun z => ⟨by omega, z.2⟩, fun z => ⟨by omega, z.2⟩⟩
      unfold tbD; simp only [key]
/-- what takeBroken leaves -/
def tbQ (ow : Nat → Nat) (w : List va_E) (t a y q o h : Nat) (ty : Nat → Int32) (R6 : Nat → List Int32) : aw_R → List va_E → Prop := fun r w' => ∃ ow' : Nat → Nat, r = .inl (some (.ref w.length)) ∧ kp ow ow' [1, 9, t] w w' ∧ (∃ gd : Nat → Option Nat, FM ow' w' t a y q o h ty (tbR ty R6 10) gd) ∧ DA ow' w' 9 w.length (tbD ty R6 10)
set_option maxRecDepth 100000 in
set_option maxHeartbeats 4000000 in
theorem tb_loop {G : aw_G} {ow : Nat → Nat} {t a y q o h : Nat} {ty : Nat → Int32} {R6 : Nat → List Int32} {w : List va_E} {ow1 : Nat → Nat} (ht : t ≠ 1) (h0 : t ≠ 0) (ht9 : t ≠ 9) : ∀ (m k : Nat) (w1 : List va_E) (gd1 : Nat → Option Nat), k + m = 10 → kp ow ow1 [1, 9, t] w w1 → FM ow1 w1 t a y q o h ty (tbR ty R6 k) gd1 → DA ow1 w1 9 w.length (tbD ty R6 k) → AW G fX1_takeBroken 0 0 w1 8 [some (.ref a), some (.ref w.length), some (.int (nI k))] [] (tbQ ow w t a y q o h ty R6) := by
  intro m
  induction m with
  | zero =>
    intro k w1 gd1 hk hkw hM hD
    refine r_iload_n (pc := 8) dX1_takeBroken_8 rfl rfl ?_
    refine r_bipush (pc := 9) (v := 10) dX1_takeBroken_9 (by decide) ?_
    refine r_icmp_ge (pc := 11) (tgt := 42) dX1_takeBroken_11 (by decide) (fun h11 => ?_) (fun h => absurd (by rw [show k = 10 by omega]; decide) h)
    refine r_aload_n (pc := 42) dX1_takeBroken_42 rfl rfl ?_
    refine r_aret (pc := 43) rfl (Or.inr ⟨_, rfl⟩) (Or.inr ⟨_, rfl⟩) dX1_takeBroken_43 ?_
    exact ⟨ow1, rfl, hkw, ⟨gd1, by rw [show 10 = k by omega]; exact hM⟩, by rw [show 10 = k by omega]; exact hD⟩
  | succ m ih =>
    intro k w1 gd1 hkm hkw hM hD
    have hk : k < 10 := by omega
    refine r_iload_n (pc := 8) dX1_takeBroken_8 rfl rfl ?_
    refine r_bipush (pc := 9) (v := 10) dX1_takeBroken_9 (by decide) ?_
    refine r_icmp_ge (pc := 11) (tgt := 42) dX1_takeBroken_11 (by decide) (fun h => absurd h (nI_ge9 hk (by decide))) (fun h11 => ?_)
    refine r_aload_n (pc := 14) dX1_takeBroken_14 rfl rfl ?_
    refine r_iload_n (pc := 15) dX1_takeBroken_15 rfl rfl ?_
    refine s_X1_54 (pc := 16) (kc' := 0) (ks' := 0) rfl rfl (ac_hasBroken hM ht hk) hM.1.2 (Nat.le_of_ble_eq_true rfl) (Nat.le_of_ble_eq_true rfl) (Nat.le_of_ble_eq_true rfl) (Nat.le_of_ble_eq_true rfl) (by exact (Nat.le_of_ble_eq_true rfl)) rfl (List.forall_mem_cons.mpr ⟨rfl, (List.forall_mem_cons.mpr ⟨rfl, fun _ h => nomatch h⟩)⟩) rfl dX1_takeBroken_16 aw_ts (aw_ks (fun w2 hk2 => ?_))
    have hM := FM_kp hM hk2 (by simpa using ht) (by decide)
    have hD := DA_kp hD hk2 (by decide) (by decide)
    refine r_if_eq (pc := 19) (tgt := 36) dX1_takeBroken_19 (by decide) (fun h19 => ?_) (fun h19 => ?_)
    · refine r_iincK (pc := 36) (k9 := 1) dX1_takeBroken_36 (by decide) rfl (Nat.le_of_ble_eq_true rfl) rfl ?_
      refine r_goto (pc := 39) (tgt := 8) dX1_takeBroken_39 (by decide) ?_
      have hb : brkF ty (R6 k) k = false := by
        have := bi_eq.mp h19
        rwa [tbR_at] at this
      rw [nI_1]
      exact ih (k + 1) w2 gd1 (by omega) (kp_tr hkw (kp_mono hk2 (by simp))) (by rw [(tb_same hb).1]; exact hM) (by rw [(tb_same hb).2]; exact hD)
    · refine r_aload_n (pc := 22) dX1_takeBroken_22 rfl rfl ?_
      refine r_iload_n (pc := 23) dX1_takeBroken_23 rfl rfl ?_
      refine r_aload_n (pc := 24) dX1_takeBroken_24 rfl rfl ?_
      refine r_iload_n (pc := 25) dX1_takeBroken_25 rfl rfl ?_
      refine s_X1_38 (pc := 26) (kc' := 0) (ks' := 0) rfl rfl (ac_formulaAt hM hk) hM.1.2 (Nat.le_of_ble_eq_true rfl) (Nat.le_of_ble_eq_true rfl) (Nat.le_of_ble_eq_true rfl) (Nat.le_of_ble_eq_true rfl) (by exact (Nat.le_of_ble_eq_true rfl)) rfl (List.forall_mem_cons.mpr ⟨rfl, (List.forall_mem_cons.mpr ⟨rfl, fun _ h => nomatch h⟩)⟩) rfl dX1_takeBroken_26 aw_kt (aw_kq ?_)
      have hb : brkF ty (R6 k) k = true := by
        have := bi_ne.mp h19
        rwa [tbR_at] at this
      have hO := hM.2.2.2.1 k hk
      rw [tbR_at] at hO
      obtain ⟨dd, hd1, hd2⟩ := id hD
      cases hg : gd1 k with
      | none =>
        rw [hg] at hO
        rw [show R6 k = [] from hO] at hb
        exact absurd (of_decide_eq_true hb).1 (fun z => z rfl)
      | some f =>
        rw [hg] at hO
        have hF : FP ow1 w2 f (R6 k) := hO
        refine r_aastore (pc := 29) (t := 5) (ci := 2) (fun _ => rfl) hd1.2 hF.2.2.2.1.2 rfl (vp_in_nI (n := k) hk (Nat.le_of_ble_eq_true rfl)) dX1_takeBroken_29 (by rw [nI_clamp (by omega)]) ?_
        have hk3 : kp ow1 ow1 [1, 9, t] w2 _ := kp_set (e := .inl (5, 10, .inr (.inr (.inr (.inr (va_up dd k (some f))))))) hd1.1 (by simp) (by decide)
        have hk3' : kp ow1 ow1 [9] w2 _ := kp_set (e := .inl (5, 10, .inr (.inr (.inr (.inr (va_up dd k (some f))))))) hd1.1 (by simp) (by decide)
        have hM := FM_kp hM hk3' (by simpa using ht9) (by decide)
        have hD3 : DA ow1 _ 9 w.length (va_up (tbD ty R6 k) k (R6 k)) := ⟨_, cl_set hd1, FO_up (fun j hj => FO_kp (hd2 j hj) hk3' (by decide)) (FP_kp hF hk3' (by decide))⟩
        refine r_aload_n (pc := 30) dX1_takeBroken_30 rfl rfl ?_
        refine r_iload_n (pc := 31) dX1_takeBroken_31 rfl rfl ?_
        refine r_null (pc := 32) dX1_takeBroken_32 ?_
        refine s_X1_69 (pc := 33) (kc' := 0) (ks' := 0) rfl rfl (ac_giveFormulaN hM hk) hM.1.2 (Nat.le_of_ble_eq_true rfl) (Nat.le_of_ble_eq_true rfl) (Nat.le_of_ble_eq_true rfl) (Nat.le_of_ble_eq_true rfl) (by exact (Nat.le_of_ble_eq_true rfl)) rfl (List.forall_mem_cons.mpr ⟨rfl, (List.forall_mem_cons.mpr ⟨rfl, (List.forall_mem_cons.mpr ⟨rfl, fun _ h => nomatch h⟩)⟩)⟩) rfl dX1_takeBroken_33 aw_kt (aw_kv ?_)
        have hM4 := FM_give hM (k := k) (x := none) (row := []) ht h0 rfl
        have hk4 : kp ow1 ow1 [t] (w2.set w.length (.inl (5, 10, .inr (.inr (.inr (.inr (va_up dd k (some f)))))))) _ := kp_set (e := .inl (5, 10, .inr (.inr (.inr (.inr (va_up gd1 k none)))))) hM.2.2.1.1 (List.mem_singleton.mpr rfl) ht
        have hD4 := DA_kp hD3 hk4 (by simpa using Ne.symm ht9) (by simpa using Ne.symm h0)
        refine r_iincK (pc := 36) (k9 := 1) dX1_takeBroken_36 (by decide) rfl (Nat.le_of_ble_eq_true rfl) rfl ?_
        refine r_goto (pc := 39) (tgt := 8) dX1_takeBroken_39 (by decide) ?_
        rw [nI_1]
        exact ih (k + 1) _ _ (by omega) (kp_tr (kp_tr hkw (kp_mono hk2 (by simp))) (kp_tr (kp_mono hk3 (by simp)) (kp_mono hk4 (by simp)))) (by rw [(tb_up hb).1]; exact hM4) (by rw [(tb_up hb).2]; exact hD4)
set_option maxRecDepth 100000 in
set_option maxHeartbeats 4000000 in
theorem ac_takeBroken {G : aw_G} {ow : Nat → Nat} {w : List va_E} {t a y q o h : Nat} {ty : Nat → Int32} {R6 : Nat → List Int32} {gd : Nat → Option Nat} (hM : FM ow w t a y q o h ty R6 gd) (ht : t ≠ 1) (h0 : t ≠ 0) (ht9 : t ≠ 9) : AM G fX1_takeBroken [.ref a] w (tbQ ow w t a y q o h ty R6) := by
  refine AM_of (by decide) rfl rfl (Nat.le_of_ble_eq_true rfl) ?_
  show AW G fX1_takeBroken 1 10 w 0 [some (.ref a), none, none] [] _
  refine r_bipush (pc := 0) (v := 10) dX1_takeBroken_0 (by decide) ?_
  refine r_newq (pc := 2) (t := 5) (index := 9) (kc' := 0) (ks' := 0) (N := 10) (fun _ => rfl) tw_117 tw_118 (by decide) (by decide) (by decide) (Nat.le_of_ble_eq_true rfl) (Nat.le_of_ble_eq_true rfl) dX1_takeBroken_2 ?_
  refine r_astore_n (pc := 5) dX1_takeBroken_5 rfl (Nat.le_of_ble_eq_true rfl) rfl ?_
  refine r_iconst (pc := 6) (v := 0) dX1_takeBroken_6 (by decide) ?_
  refine r_istore_n (pc := 7) dX1_takeBroken_7 rfl (Nat.le_of_ble_eq_true rfl) rfl ?_
  have hp : kp ow (fun i => if i < w.length then ow i else 9) [1, 9, t] w (w ++ [.inl (5, 10, .inr (.inr (.inr (.inr (fun _ => none)))))]) := kp_push _ (fun i hi => if_pos hi)
  have hp' : kp ow (fun i => if i < w.length then ow i else 9) [] w (w ++ [.inl (5, 10, .inr (.inr (.inr (.inr (fun _ => none)))))]) := kp_push _ (fun i hi => if_pos hi)
  refine tb_loop (ow1 := fun i => if i < w.length then ow i else 9) ht h0 ht9 10 0 _ gd rfl hp (FM_cong (FM_kp hM hp' (by simp) (by simp)) (fun k _ => (if_neg (fun z => Nat.not_lt_zero _ z.1)).symm)) ⟨fun _ => none, ⟨if_neg (Nat.lt_irrefl _), List.getElem?_concat_length ..⟩, fun k _ => if_neg (fun z => Nat.not_lt_zero _ z.1)⟩

end S22
