/-! ===== the class: a Form: frozen, fieldsThatFall ===== -/
section S23
theorem FM_blank {ow : Nat → Nat} {w : List va_E} {td ty : Nat → Int32} (hd : ∀ j, j < 6 → td j = ty j) : FM (fun i => if i < w.length then ow i else 8) (w ++ [.inr (1, [.ref (w.length + 1), .ref (w.length + 3), .ref (w.length + 4)]), .inr (4, [.ref (w.length + 2)]), .inl (0, 6, .inl td), .inl (5, 10, .inr (.inr (.inr (.inr (fun _ => none))))), .inl (0, 6, .inl (fun _ => 0))]) 8 w.length (w.length + 1) (w.length + 2) (w.length + 3) (w.length + 4) ty (fun _ => []) (fun _ => none) := by
  have key : ∀ (j : Nat) (e : va_E), [(.inr (1, [.ref (w.length + 1), .ref (w.length + 3), .ref (w.length + 4)]) : va_E), .inr (4, [.ref (w.length + 2)]), .inl (0, 6, .inl td), .inl (5, 10, .inr (.inr (.inr (.inr (fun _ => none))))), .inl (0, 6, .inl (fun _ => 0))][j]? = some e → cl (fun i => if i < w.length then ow i else 8) (w ++ [.inr (1, [.ref (w.length + 1), .ref (w.length + 3), .ref (w.length + 4)]), .inr (4, [.ref (w.length + 2)]), .inl (0, 6, .inl td), .inl (5, 10, .inr (.inr (.inr (.inr (fun _ => none))))), .inl (0, 6, .inl (fun _ => 0))]) 8 (w.length + j) e := by
    intro j e h
    refine ⟨if_neg (by omega), ?_⟩
    rw [List.getElem?_append_right (by omega), show w.length + j - w.length = j by omega]
    exact h
  exact ⟨key 0 _ rfl, ⟨key 1 _ rfl, td, key 2 _ rfl, hd⟩, key 3 _ rfl, fun _ _ => rfl, _, key 4 _ rfl⟩
/-- the owner 8 of a Form that is being made becomes 0 -/
def rt (n : Nat) (ow ow' : Nat → Nat) : Nat → Nat := fun i => if i < n then ow i else if ow' i = 8 then 0 else ow' i
theorem rt_kp {ow ow' : Nat → Nat} {ts : List Nat} {w w' : List va_E} (k : kp ow ow' ts w w') : kp ow (rt w.length ow ow') ts w w' := ⟨k.1, fun i hi => if_pos hi, k.2.2.1, k.2.2.2⟩
theorem rt_cl {n : Nat} {ow ow' : Nat → Nat} {w' : List va_E} {t i : Nat} {e : va_E} (hk : ∀ i, i < n → ow' i = ow i) (h : cl ow' w' t i e) (ht : t ≠ 8) : cl (rt n ow ow') w' t i e := by
  refine ⟨?_, h.2⟩
  unfold rt
  by_cases hi : i < n
  · rw [if_pos hi, ← hk i hi]; exact h.1
  · rw [if_neg hi, if_neg (by rw [h.1]; exact ht)]; exact h.1
theorem rt_c8 {n : Nat} {ow ow' : Nat → Nat} {w' : List va_E} {i : Nat} {e : va_E} (h : cl ow' w' 8 i e) (hi : n ≤ i) : cl (rt n ow ow') w' 0 i e := ⟨by unfold rt; rw [if_neg (by omega), if_pos h.1], h.2⟩
theorem rt_FP {n : Nat} {ow ow' : Nat → Nat} {w' : List va_E} {a : Nat} {row : List Int32} (hk : ∀ i, i < n → ow' i = ow i) (h : FP ow' w' a row) : FP (rt n ow ow') w' a row := by
  obtain ⟨h1, h2, h3, h4, ⟨f, h5, h6⟩, ⟨f2, h7, h8⟩, g, h9⟩ := h
  exact ⟨h1, h2, h3, rt_cl hk h4 (by decide), ⟨f, rt_cl hk h5 (by decide), h6⟩, ⟨f2, rt_cl hk h7 (by decide), h8⟩, g, rt_cl hk h9 (by decide)⟩
theorem rt_FM {n : Nat} {ow ow' : Nat → Nat} {w' : List va_E} {ty : Nat → Int32} {R6 : Nat → List Int32} {gd : Nat → Option Nat} (hk : ∀ i, i < n → ow' i = ow i) (h : FM ow' w' 8 n (n + 1) (n + 2) (n + 3) (n + 4) ty R6 gd) : FM (rt n ow ow') w' 0 n (n + 1) (n + 2) (n + 3) (n + 4) ty R6 gd := by
  obtain ⟨h1, ⟨h2, td, h3, h4⟩, h5, h6, td1, h7⟩ := h
  refine ⟨rt_c8 h1 (Nat.le_refl _), ⟨rt_c8 h2 (by omega), td, rt_c8 h3 (by omega), h4⟩, rt_c8 h5 (by omega), fun k hk9 => ?_, td1, rt_c8 h7 (by omega)⟩
  have h8 := h6 k hk9
  cases hg : gd k with
  | none => rw [hg] at h8; exact h8
  | some f => rw [hg] at h8; exact rt_FP hk h8
/-- what frozen answers -/
def fzQ (ow : Nat → Nat) (w : List va_E) (ty : Nat → Int32) (R6 : Nat → List Int32) : aw_R → List va_E → Prop := fun r w' => ∃ ow' : Nat → Nat, r = .inl (some (.ref w.length)) ∧ kp ow ow' [8] w w' ∧ (∃ gd : Nat → Option Nat, FM ow' w' 0 w.length (w.length + 1) (w.length + 2) (w.length + 3) (w.length + 4) ty R6 gd) ∧ HD ow' w' 0 (w.length + 4) (ordO R6 6 0 [])
def fzR (R6 : Nat → List Int32) (k : Nat) : Nat → List Int32 := fun j => if j < k then R6 j else []
theorem fz_up {R6 : Nat → List Int32} {k : Nat} : fzR R6 (k + 1) = va_up (fzR R6 k) k (R6 k) := by
  funext j
  by_cases e : j = k
  · subst e; rw [va_up_self]; exact if_pos (Nat.lt_succ_self _)
  · rw [va_up_ne _ _ e]
    unfold fzR
    by_cases h : j < k
    · rw [if_pos h, if_pos (by omega)]
    · rw [if_neg h, if_neg (by omega)]
set_option maxRecDepth 100000 in
set_option maxHeartbeats 4000000 in
theorem fz_loop {G : aw_G} {ow : Nat → Nat} {t a y q o h : Nat} {ty : Nat → Int32} {R6 : Nat → List Int32} {gd : Nat → Option Nat} {w : List va_E} {ow1 : Nat → Nat} (ht8 : t ≠ 8) (hok : ∀ k, k < 10 → okL (R6 k)) : ∀ (m k : Nat) (w1 : List va_E) (gdn : Nat → Option Nat), k + m = 10 → kp ow ow1 [8] w w1 → FM ow1 w1 t a y q o h ty R6 gd → FM ow1 w1 8 w.length (w.length + 1) (w.length + 2) (w.length + 3) (w.length + 4) ty (fzR R6 k) gdn → AW G fX1_frozen 0 0 w1 17 [some (.ref a), some (.ref w.length), some (.int (nI k))] [] (fzQ ow w ty R6) := by
  intro m
  induction m with
  | zero =>
    intro k w1 gdn hk hkw hM hN
    have hN := FM_cong hN (R6' := R6) (fun j hj => if_pos (by omega))
    refine r_iload_n (pc := 17) dX1_frozen_17 rfl rfl ?_
    refine r_bipush (pc := 18) (v := 10) dX1_frozen_18 (by decide) ?_
    refine r_icmp_ge (pc := 20) (tgt := 39) dX1_frozen_20 (by decide) (fun h20 => ?_) (fun h => absurd (by rw [show k = 10 by omega]; decide) h)
    refine r_aload_n (pc := 39) dX1_frozen_39 rfl rfl ?_
    refine s_X1_80 (pc := 40) (kc' := 0) (ks' := 0) (rest := []) rfl rfl (ac_tellOrder hN (by decide) (by decide) (show w.length + 2 ≠ w.length + 4 by omega) (fun k hk => hok k (by omega))) hN.1.2 (Nat.le_of_ble_eq_true rfl) (Nat.le_of_ble_eq_true rfl) (Nat.le_of_ble_eq_true rfl) (Nat.le_of_ble_eq_true rfl) (by exact (Nat.le_of_ble_eq_true rfl)) rfl (List.forall_mem_cons.mpr ⟨rfl, fun _ h => nomatch h⟩) rfl dX1_frozen_40 (fun E w' hq _ => by obtain ⟨z, -⟩ := hq; cases z) (fun r w' hq _ => ?_)
    obtain ⟨e9, td, rfl, htd⟩ := hq
    cases e9
    show AW G fX1_frozen 0 0 _ 43 _ [] _
    refine r_aload_n (pc := 43) dX1_frozen_43 rfl rfl ?_
    refine r_aret (pc := 44) rfl (Or.inl ⟨_, rfl⟩) (Or.inr ⟨_, rfl⟩) dX1_frozen_44 ?_
    have hkf : kp ow1 ow1 [8] w1 (w1.set (w.length + 4) (.inl (0, 6, .inl td))) := kp_set hN.2.2.2.2.choose_spec.1 (List.mem_singleton.mpr rfl) (by decide)
    have hN4 := FM_told hN (by decide) (by decide) (show w.length + 2 ≠ w.length + 4 by omega) td
    exact ⟨rt w.length ow ow1, rfl, rt_kp (kp_tr hkw hkf), ⟨_, rt_FM hkw.2.1 hN4⟩, td, rt_c8 hN4.2.2.2.2.choose_spec (by omega) |> fun z => ⟨z.1, by rw [List.getElem?_set_self (lt_of_at hN.2.2.2.2.choose_spec.2)]⟩, htd⟩
  | succ m ih =>
    intro k w1 gdn hkm hkw hM hN
    have hk : k < 10 := by omega
    refine r_iload_n (pc := 17) dX1_frozen_17 rfl rfl ?_
    refine r_bipush (pc := 18) (v := 10) dX1_frozen_18 (by decide) ?_
    refine r_icmp_ge (pc := 20) (tgt := 39) dX1_frozen_20 (by decide) (fun h => absurd h (nI_ge9 hk (by decide))) (fun h20 => ?_)
    refine r_aload_n (pc := 23) dX1_frozen_23 rfl rfl ?_
    refine r_iload_n (pc := 24) dX1_frozen_24 rfl rfl ?_
    refine r_aload_n (pc := 25) dX1_frozen_25 rfl rfl ?_
    refine r_iload_n (pc := 26) dX1_frozen_26 rfl rfl ?_
    refine s_X1_38 (pc := 27) (kc' := 0) (ks' := 0) rfl rfl (ac_formulaAt hM hk) hM.1.2 (Nat.le_of_ble_eq_true rfl) (Nat.le_of_ble_eq_true rfl) (Nat.le_of_ble_eq_true rfl) (Nat.le_of_ble_eq_true rfl) (by exact (Nat.le_of_ble_eq_true rfl)) rfl (List.forall_mem_cons.mpr ⟨rfl, (List.forall_mem_cons.mpr ⟨rfl, fun _ h => nomatch h⟩)⟩) rfl dX1_frozen_27 aw_kt (aw_kq ?_)
    have hO := hM.2.2.2.1 k hk
    cases hg : gd k with
    | none =>
      rw [hg] at hO
      refine s_X1_69 (pc := 30) (kc' := 0) (ks' := 0) rfl rfl (ac_giveFormulaN hN hk) hN.1.2 (Nat.le_of_ble_eq_true rfl) (Nat.le_of_ble_eq_true rfl) (Nat.le_of_ble_eq_true rfl) (Nat.le_of_ble_eq_true rfl) (by exact (Nat.le_of_ble_eq_true rfl)) rfl (List.forall_mem_cons.mpr ⟨rfl, (List.forall_mem_cons.mpr ⟨rfl, (List.forall_mem_cons.mpr ⟨rfl, fun _ h => nomatch h⟩)⟩)⟩) rfl dX1_frozen_30 aw_kt (aw_kv ?_)
      have hk3 : kp ow1 ow1 [8] w1 _ := kp_set (e := .inl (5, 10, .inr (.inr (.inr (.inr (va_up gdn k none)))))) hN.2.2.1.1 (List.mem_singleton.mpr rfl) (by decide)
      have hN3 := FM_give hN (k := k) (x := none) (row := R6 k) (by decide) (by decide) hO
      have hM3 := FM_kp hM hk3 (by simpa using ht8) (by decide)
      refine r_iincK (pc := 33) (k9 := 1) dX1_frozen_33 (by decide) rfl (Nat.le_of_ble_eq_true rfl) rfl ?_
      refine r_goto (pc := 36) (tgt := 17) dX1_frozen_36 (by decide) ?_
      rw [nI_1]
      exact ih (k + 1) _ _ (by omega) (kp_tr hkw (kp_mono hk3 (by simp))) hM3 (by rw [fz_up]; exact hN3)
    | some f =>
      rw [hg] at hO
      refine s_X1_69 (pc := 30) (kc' := 0) (ks' := 0) rfl rfl (ac_giveFormula hN hk hO.2.2.2.1.2) hN.1.2 (Nat.le_of_ble_eq_true rfl) (Nat.le_of_ble_eq_true rfl) (Nat.le_of_ble_eq_true rfl) (Nat.le_of_ble_eq_true rfl) (by exact (Nat.le_of_ble_eq_true rfl)) rfl (List.forall_mem_cons.mpr ⟨rfl, (List.forall_mem_cons.mpr ⟨rfl, (List.forall_mem_cons.mpr ⟨rfl, fun _ h => nomatch h⟩)⟩)⟩) rfl dX1_frozen_30 aw_kt (aw_kv ?_)
      have hk3 : kp ow1 ow1 [8] w1 _ := kp_set (e := .inl (5, 10, .inr (.inr (.inr (.inr (va_up gdn k (some f))))))) hN.2.2.1.1 (List.mem_singleton.mpr rfl) (by decide)
      have hN3 := FM_give hN (k := k) (x := (some f)) (row := R6 k) (by decide) (by decide) hO
      have hM3 := FM_kp hM hk3 (by simpa using ht8) (by decide)
      refine r_iincK (pc := 33) (k9 := 1) dX1_frozen_33 (by decide) rfl (Nat.le_of_ble_eq_true rfl) rfl ?_
      refine r_goto (pc := 36) (tgt := 17) dX1_frozen_36 (by decide) ?_
      rw [nI_1]
      exact ih (k + 1) _ _ (by omega) (kp_tr hkw (kp_mono hk3 (by simp))) hM3 (by rw [fz_up]; exact hN3)
set_option maxRecDepth 100000 in
set_option maxHeartbeats 4000000 in
theorem ac_frozen {G : aw_G} {ow : Nat → Nat} {w : List va_E} {t a y q o h : Nat} {ty : Nat → Int32} {R6 : Nat → List Int32} {gd : Nat → Option Nat} (hM : FM ow w t a y q o h ty R6 gd) (ht8 : t ≠ 8) (hok : ∀ k, k < 10 → okL (R6 k)) : AM G fX1_frozen [.ref a] w (fzQ ow w ty R6) := by
  refine AM_of (by decide) rfl rfl (Nat.le_of_ble_eq_true rfl) ?_
  show AW G fX1_frozen 5 100 w 0 [some (.ref a), none, none] [] _
  refine n_X1 (pc := 0) (index := 12) (kc' := 4) (ks' := 97) tw_568 (Nat.le_of_ble_eq_true rfl) (Nat.le_of_ble_eq_true rfl) dX1_frozen_0 ?_
  refine r_dup (pc := 3) dX1_frozen_3 rfl ?_
  refine r_aload_n (pc := 4) dX1_frozen_4 rfl rfl ?_
  have hp1 : kp ow ow [] w (w ++ [.inr (1, [.null, .null, .null])]) := kp_push _ (fun _ _ => rfl)
  have hM1 := FM_kp hM hp1 (by simp) (by simp)
  obtain ⟨td, hd, hde⟩ := hM1.2.1.2
  refine g_X1_26 (pc := 5) rfl hM1.1.2 rfl dX1_frozen_5 ?_
  refine s_X1_73 (pc := 8) (kc' := 2) (ks' := 16) rfl rfl (ac_copied hM1.2.1.1.2 hd.2) hM1.2.1.1.2 (Nat.le_of_ble_eq_true rfl) (Nat.le_of_ble_eq_true rfl) (Nat.le_of_ble_eq_true rfl) (Nat.le_of_ble_eq_true rfl) (by exact (Nat.le_of_ble_eq_true rfl)) rfl (List.forall_mem_cons.mpr ⟨rfl, fun _ h => nomatch h⟩) rfl dX1_frozen_8 aw_kt (aw_kq ?_)
  rw [show cpT (w ++ [.inr (1, [.null, .null, .null])]) td = w ++ [.inr (1, [.null, .null, .null]), .inr (4, [.ref (w.length + 2)]), .inl (0, 6, .inl td)] by unfold cpT; rw [List.append_assoc, List.length_append]; rfl, show (w ++ [(.inr (1, [.null, .null, .null]) : va_E)]).length = w.length + 1 by rw [List.length_append]; rfl]
  refine s_X1_77 (pc := 11) (kc' := 0) (ks' := 0) (rest := [.ref w.length]) rfl rfl ac1_init (Nat.le_of_ble_eq_true rfl) (Nat.le_of_ble_eq_true rfl) (Nat.le_of_ble_eq_true rfl) (Nat.le_of_ble_eq_true rfl) (by exact (Nat.le_of_ble_eq_true rfl)) rfl (List.forall_mem_cons.mpr ⟨rfl, (List.forall_mem_cons.mpr ⟨rfl, fun _ h => nomatch h⟩)⟩) rfl dX1_frozen_11 aw_kt (aw_kv ?_)
  refine r_astore_n (pc := 14) dX1_frozen_14 rfl (Nat.le_of_ble_eq_true rfl) rfl ?_
  refine r_iconst (pc := 15) (v := 0) dX1_frozen_15 (by decide) ?_
  refine r_istore_n (pc := 16) dX1_frozen_16 rfl (Nat.le_of_ble_eq_true rfl) rfl ?_
  obtain ⟨td2, hd2, hde2⟩ := hM.2.1.2
  have hde3 : ∀ j, j < 6 → td j = ty j := hde
  have hk9 : ∀ (l : List va_E), kp ow (fun i => if i < w.length then ow i else 8) [] w (w ++ l) := fun l => kp_push _ (fun i hi => if_pos hi)
  refine AW_weak (Nat.zero_le _) (Nat.zero_le _) (fun _ _ z => z) (fz_loop (ow1 := fun i => if i < w.length then ow i else 8) ht8 hok 10 0 _ _ rfl (kp_mono (hk9 _) (by simp)) (FM_kp hM (hk9 _) (by simp) (by simp)) (FM_cong (FM_blank hde3) (fun k _ => (if_neg (Nat.not_lt_zero _)).symm)))
end S23
