/-! ===== what the calls leave: the reference's invariant and the pure ones ===== -/
section JP
variable {tn vn an tn' : Nat} {R R' : Nat → List Int32} {vv : Nat → Nat} {sc sc' : Nat → Int32} {ar ar' : Nat → Nat → Int32} {ow : Nat → Nat} {w w' : List va_E}
theorem MI_tx (hM : MI tn vn an R vv sc ar) (h1 : sc' 1 = nI tn') (ht : tn' ≤ 40) (h5 : sc' 5 = sc 5) (h6 : sc' 6 = sc 6) (e2 : ar' 2 = ar 2) (e3 : ar' 3 = ar 3) (e8 : ar' 8 = ar 8) : MI tn' vn an R vv sc' ar' := by
  obtain ⟨-, -, m5, m6, m7, m8, m9, m10⟩ := hM
  refine ⟨h1, ht, h5.trans m5, m6, h6.trans m7, m8, fun its hi => ⟨?_, (m9 its hi).2⟩, fun a ha => by rw [e8]; exact m10 a ha⟩
  obtain ⟨c1, c2, c3, c4⟩ := (m9 its hi).1
  exact ⟨c1, c2, by rw [e3]; exact c3, fun i x hx => by rw [e2]; exact c4 i x hx⟩
theorem MI_12 (hM : MI tn vn an R vv sc ar) (c : Int32) : MI tn vn an R vv (upd sc 12 c) ar := MI_tx hM ((upd_n _ _ (by decide)).trans hM.1) hM.2.1 (upd_n _ _ (by decide)) (upd_n _ _ (by decide)) rfl rfl rfl
theorem MI_12a (hM : MI tn vn an R vv sc ar) (c : Int32) (e2 : ar' 2 = ar 2) (e3 : ar' 3 = ar 3) (e8 : ar' 8 = ar 8) : MI tn vn an R vv (upd sc 12 c) ar' := MI_tx hM ((upd_n _ _ (by decide)).trans hM.1) hM.2.1 (upd_n _ _ (by decide)) (upd_n _ _ (by decide)) e2 e3 e8
theorem SI_tx (hI : SI tn vn an R vv ar) (ht : tn' ≤ 40) (e4 : ar' 4 = ar 4) (e7 : ar' 7 = ar 7) (e9 : ar' 9 = ar 9) (e10 : ar' 10 = ar 10) (e11 : ar' 11 = ar 11) : SI tn' vn an R vv ar' := by
  obtain ⟨⟨-, h2, h3⟩, h4⟩ := hI
  unfold SI tyA at *
  rw [e4, e7, e9, e10, e11]
  exact ⟨⟨ht, h2, h3⟩, h4⟩
theorem SI_ag {Ks Ka : List Nat} (hI : SI tn vn an R vv ar) (h : ag Ks Ka sc ar sc' ar') (hk : 4 ∉ Ka ∧ 7 ∉ Ka ∧ 9 ∉ Ka ∧ 10 ∉ Ka ∧ 11 ∉ Ka) : SI tn vn an R vv ar' := SI_tx hI hI.1.1 (h.2 4 hk.1) (h.2 7 hk.2.1) (h.2 9 hk.2.2.1) (h.2 10 hk.2.2.2.1) (h.2 11 hk.2.2.2.2)
theorem CP_eq (hC : CP ow w tn vn an R vv ar) (e0 : ar' 0 = ar 0) (e4 : ar' 4 = ar 4) (e7 : ar' 7 = ar 7) (e9 : ar' 9 = ar 9) (e10 : ar' 10 = ar 10) (e11 : ar' 11 = ar 11) : CP ow w tn vn an R vv ar' := CP_ar hC (fun j _ => by rw [e0]) e4.symm (fun a _ => ⟨by rw [e7], by rw [e11], fun j _ => by rw [e9], fun j _ => by rw [e10]⟩)
theorem CP_ag {Ks Ka : List Nat} (hC : CP ow w tn vn an R vv ar) (h : ag Ks Ka sc ar sc' ar') (h0 : 0 ∉ Ka) (hk : 4 ∉ Ka ∧ 7 ∉ Ka ∧ 9 ∉ Ka ∧ 10 ∉ Ka ∧ 11 ∉ Ka) : CP ow w tn vn an R vv ar' := CP_eq hC (h.2 0 h0) (h.2 4 hk.1) (h.2 7 hk.2.1) (h.2 9 hk.2.2.1) (h.2 10 hk.2.2.2.1) (h.2 11 hk.2.2.2.2)
theorem SI_ans (hI : SI tn vn an R vv ar) {a : Nat} (ha : a < an) (e4 : ar' 4 = ar 4) (hl : ∀ j, j < 6 → fl01 (tyA ar (vv a) j) (ar' 9 (6 * a + j))) (hd : (∀ i, 6 ≤ i → i < 32 → bt (ar' 11 a) i = false) ∧ (ar' 7 a = 1 → ar' 11 a = 0) ∧ (ar' 7 a = 3 → ar' 11 a ≠ 0)) (ea : ∀ a', a' ≠ a → ar' 7 a' = ar 7 a' ∧ ar' 11 a' = ar 11 a' ∧ ∀ j, j < 6 → ar' 9 (6 * a' + j) = ar 9 (6 * a' + j) ∧ ar' 10 (6 * a' + j) = ar 10 (6 * a' + j)) : SI tn vn an R vv ar' := by
  obtain ⟨h1, h2, h3, h4, h5, h6, h7, h8⟩ := hI
  have et : ∀ v, tyA ar' v = tyA ar v := fun v => by unfold tyA; rw [e4]
  refine ⟨h1, h2, h3, by rw [e4]; exact h4, fun v hv k hk => by rw [et]; exact h5 v hv k hk, fun a' ha' j hj => ?_, fun a' ha' => ?_, fun a' h9 h10 => ?_⟩
  · rw [et]
    by_cases e : a' = a
    · subst e; exact hl j hj
    · rw [((ea a' e).2.2 j hj).1]; exact h6 a' ha' j hj
  · by_cases e : a' = a
    · subst e; exact hd
    · rw [(ea a' e).1, (ea a' e).2.1]; exact h7 a' ha'
  · have e : a' ≠ a := by omega
    rw [(ea a' e).1, (ea a' e).2.1]
    exact ⟨(h8 a' h9 h10).1, (h8 a' h9 h10).2.1, fun j hj => by rw [((ea a' e).2.2 j hj).1, ((ea a' e).2.2 j hj).2]; exact (h8 a' h9 h10).2.2 j hj⟩
theorem SK_tx (hK : SK tn vn an R vv ar) (ht : tn' ≤ 40) (e4 : ar' 4 = ar 4) (e7 : ar' 7 = ar 7) (e9 : ar' 9 = ar 9) (e10 : ar' 10 = ar 10) (e11 : ar' 11 = ar 11) : SK tn' vn an R vv ar' := ⟨SI_tx hK.1 ht e4 e7 e9 e10 e11, fun a ha h f hf hc => by
  rw [e7] at h
  unfold canP at hc
  rw [e4] at hc
  rw [e10]
  exact hK.2 a ha h f hf hc⟩
theorem SK_ag {Ks Ka : List Nat} (hK : SK tn vn an R vv ar) (h : ag Ks Ka sc ar sc' ar') (hk : 4 ∉ Ka ∧ 7 ∉ Ka ∧ 9 ∉ Ka ∧ 10 ∉ Ka ∧ 11 ∉ Ka) : SK tn vn an R vv ar' := SK_tx hK hK.1.1.1 (h.2 4 hk.1) (h.2 7 hk.2.1) (h.2 9 hk.2.2.1) (h.2 10 hk.2.2.2.1) (h.2 11 hk.2.2.2.2)
theorem SK_ans (hK : SK tn vn an R vv ar) {a : Nat} (ha : a < an) (e4 : ar' 4 = ar 4) (hl : ∀ j, j < 6 → fl01 (tyA ar (vv a) j) (ar' 9 (6 * a + j))) (hd : (∀ i, 6 ≤ i → i < 32 → bt (ar' 11 a) i = false) ∧ (ar' 7 a = 1 → ar' 11 a = 0) ∧ (ar' 7 a = 3 → ar' 11 a ≠ 0)) (ea : ∀ a', a' ≠ a → ar' 7 a' = ar 7 a' ∧ ar' 11 a' = ar 11 a' ∧ ∀ j, j < 6 → ar' 9 (6 * a' + j) = ar 9 (6 * a' + j) ∧ ar' 10 (6 * a' + j) = ar 10 (6 * a' + j)) (hh : ar' 7 a ≠ 0 → ∀ f, f < 6 → canP ar R (vv a) f = true → ar' 10 (6 * a + f) = 1) : SK tn vn an R vv ar' := ⟨SI_ans hK.1 ha e4 hl hd ea, fun a' ha' h f hf hc => by
  unfold canP at hc
  rw [e4] at hc
  by_cases e : a' = a
  · subst e; exact hh h f hf hc
  · rw [(ea a' e).1] at h
    rw [((ea a' e).2.2 f hf).2]
    exact hK.2 a' ha' h f hf hc⟩
theorem CP_AZ (hC : CP ow w tn vn an R vv ar) {a : Nat} (ha : a < an) {st db : Int32} {vl hs : Nat → Int32} (hZ : AZ ow w w' vv a st db vl hs) (e0 : ar' 0 = ar 0) (e4 : ar' 4 = ar 4) (e7 : ar' 7 a = st) (e11 : ar' 11 a = db) (e9 : ∀ j, j < 6 → vl j = ar' 9 (6 * a + j)) (e10 : ∀ j, j < 6 → hs j = ar' 10 (6 * a + j)) (ea : ∀ a', a' ≠ a → ar' 7 a' = ar 7 a' ∧ ar' 11 a' = ar 11 a' ∧ ∀ j, j < 6 → ar' 9 (6 * a' + j) = ar 9 (6 * a' + j) ∧ ar' 10 (6 * a' + j) = ar 10 (6 * a' + j)) : CP ow w' tn vn an R vv ar' := by
  obtain ⟨b, fa, hb, hf, hk, hN⟩ := hZ
  exact CP_ans hC ha hb hf hk hN e0 e4 e7 e11 e9 e10 (fun a' _ e => ⟨(ea a' e).1, (ea a' e).2.1, fun j hj => ((ea a' e).2.2 j hj).1.symm, fun j hj => ((ea a' e).2.2 j hj).2.symm⟩)
theorem AZ_kq {a : Nat} {st db : Int32} {vl hs : Nat → Int32} (hZ : AZ ow w w' vv a st db vl hs) : kq ow ow w w' := by
  obtain ⟨b, fa, hb, hf, hk, hN⟩ := hZ
  refine kp_kq hk ?_ ?_ <;> simp <;> omega
theorem CP_sgL (hC : CP ow w tn vn an R vv ar) {v : Nat} (hv : v < vn) {k : Nat} (hk : k < 10) : sgL (RA R v k) := by
  obtain ⟨a, -, ⟨gd, hM⟩, -⟩ := hC.2.2.2.2.1 v hv
  have h := hM.2.2.2.1 k hk
  cases hg : gd k with
  | none => rw [hg] at h; rw [show RA R v k = [] from h]; exact sgL_nil
  | some f => rw [hg] at h; exact h.2.1
theorem SI_hfl (hC : CP ow w tn vn an R vv ar) (hI : SI tn vn an R vv ar) {v : Nat} (hv : v < vn) : ∀ k, k < 6 → RA R v k ≠ [] → ∀ vl : Nat → Int32, (∀ j, j < 6 → fl01 (tyA ar v j) (vl j)) → fl01 (tyA ar v k) (vaV vl (RA R v k)) := by
  intro k hk hn vl hl
  have h8 := (va_one (SI_wf hI hv (by omega) hn) (CP_sgL hC hv (by omega)) (due_ne hI hv k (by omega) hn) hl).2
  rw [hI.2.2.2.2.1 v hv k (by omega) hn, dueF, if_pos hk] at h8
  exact h8
theorem cmpC_fl {ty : Nat → Int32} {R6 : Nat → List Int32} (hfl : ∀ k, k < 6 → R6 k ≠ [] → ∀ vl : Nat → Int32, (∀ j, j < 6 → fl01 (ty j) (vl j)) → fl01 (ty k) (vaV vl (R6 k))) : ∀ (l : List Nat) (f : Nat → Int32), (∀ k ∈ l, k < 6) → (∀ k ∈ l, R6 k ≠ []) → (∀ j, j < 6 → fl01 (ty j) (f j)) → ∀ j, j < 6 → fl01 (ty j) (cmpC R6 l f j)
  | [], f, _, _, h, j, hj => h j hj
  | k :: l, f, h1, h2, h, j, hj => cmpC_fl hfl l _ (fun x hx => h1 x (List.mem_cons_of_mem _ hx)) (fun x hx => h2 x (List.mem_cons_of_mem _ hx)) (upd_fl h (h1 k (List.mem_cons_self ..)) (hfl k (h1 k (List.mem_cons_self ..)) (h2 k (List.mem_cons_self ..)) f h)) j hj
theorem upd_off (f : Nat → Int32) (a k : Nat) (x : Int32) : (fun j => upd f (6 * a + k) x (6 * a + j)) = upd (fun j => f (6 * a + j)) k x := by
  funext j
  by_cases e : j = k
  · subst e; rw [upd_s, upd_s]
  · rw [upd_n _ _ e, upd_n _ _ (by omega)]
theorem cmpL_C {R6 : Nat → List Int32} {a : Nat} : ∀ (l : List Nat) (f : Nat → Int32), (fun j => cmpL R6 a l f (6 * a + j)) = cmpC R6 l (fun j => f (6 * a + j))
  | [], f => rfl
  | k :: l, f => by
    show (fun j => cmpL R6 a l (upd f (6 * a + k) (vaV (fun j => f (6 * a + j)) (R6 k))) (6 * a + j)) = cmpC R6 l (upd (fun j => f (6 * a + j)) k (vaV (fun j => f (6 * a + j)) (R6 k)))
    rw [cmpL_C l, upd_off]
theorem hasL_C {a : Nat} : ∀ (l : List Nat) (f : Nat → Int32), (fun j => hasL a l f (6 * a + j)) = hasC l (fun j => f (6 * a + j))
  | [], f => rfl
  | k :: l, f => by
    show (fun j => hasL a l (upd f (6 * a + k) 1) (6 * a + j)) = hasC l (upd (fun j => f (6 * a + j)) k 1)
    rw [hasL_C l, upd_off]
theorem cmpL_n {R6 : Nat → List Int32} {a a' j : Nat} (hj : j < 6) (ha : a' ≠ a) : ∀ (l : List Nat) (f : Nat → Int32), (∀ k ∈ l, k < 6) → cmpL R6 a l f (6 * a' + j) = f (6 * a' + j)
  | [], f, _ => rfl
  | k :: l, f, h => by
    have hk := h k (List.mem_cons_self ..)
    show cmpL R6 a l (upd f (6 * a + k) _) (6 * a' + j) = _
    rw [cmpL_n hj ha l _ (fun x hx => h x (List.mem_cons_of_mem _ hx)), upd_n _ _ (by omega)]
theorem hasL_n {a a' j : Nat} (hj : j < 6) (ha : a' ≠ a) : ∀ (l : List Nat) (f : Nat → Int32), (∀ k ∈ l, k < 6) → hasL a l f (6 * a' + j) = f (6 * a' + j)
  | [], f, _ => rfl
  | k :: l, f, h => by
    have hk := h k (List.mem_cons_self ..)
    show hasL a l (upd f (6 * a + k) 1) (6 * a' + j) = _
    rw [hasL_n hj ha l _ (fun x hx => h x (List.mem_cons_of_mem _ hx)), upd_n _ _ (by omega)]
theorem stJ_C {rf db : Int32} (h : ∀ i, 6 ≤ i → i < 32 → bt db i = false) : stJ rf db = stC rf db := by
  unfold stJ stC
  by_cases h1 : rf = -1
  · rw [if_neg (fun z => z h1), if_pos h1]
    by_cases h2 : db = 0
    · rw [if_neg (fun z => (six_pos h).mp z h2), if_pos h2]
    · rw [if_pos ((six_pos h).mpr h2), if_neg h2]
  · rw [if_pos h1, if_neg h1]
theorem stC_ok {rf db : Int32} : (stC rf db = 1 → db = 0) ∧ (stC rf db = 3 → db ≠ 0) := by
  unfold stC
  by_cases h1 : rf = -1
  · rw [if_pos h1]
    by_cases h2 : db = 0
    · rw [if_pos h2]; exact ⟨fun _ => h2, fun z => absurd z (by decide)⟩
    · rw [if_neg h2]; exact ⟨fun z => absurd z (by decide), fun _ => h2⟩
  · rw [if_neg h1]; exact ⟨fun z => absurd z (by decide), fun z => absurd z (by decide)⟩
theorem six_or {db : Int32} {f : Nat} (hf : f < 6) (h : ∀ i, 6 ≤ i → i < 32 → bt db i = false) : ∀ i, 6 ≤ i → i < 32 → bt (db ||| b1 f) i = false := fun i h6 hi => by
  rw [b_or, h i h6 hi, bt_b1 (by omega) hi, decide_eq_false (by omega)]; rfl
theorem or_ne {db : Int32} {f : Nat} (hf : f < 6) : db ||| b1 f ≠ 0 := fun z => by
  have := b_zero.mp z f (by omega)
  rw [b_or, bt_b1 (by omega) (by omega), decide_eq_true rfl, Bool.or_true] at this
  cases this
theorem six_and {db x : Int32} (h : ∀ i, 6 ≤ i → i < 32 → bt db i = false) : ∀ i, 6 ≤ i → i < 32 → bt (db &&& x) i = false := fun i h6 hi => by rw [b_and, h i h6 hi]; rfl
theorem cntU_same {p q : Nat → Bool} (h : ∀ j, j < 6 → p j = q j) : cntU p 0 6 = cntU q 0 6 := cntU_cong 6 0 (fun j _ hj => h j (by omega))
end JP
/-- refused: nothing has changed -/
theorem nx_bad {G : aw_G} {F7 F8 : aw_F} {as7 as8 : List Value} {ow : Nat → Nat} {w : List va_E} {tn vn an : Nat} {R : Nat → List Int32} {vv : Nat → Nat} {sc : Nat → Int32} {ar : Nat → Nat → Int32} {f : Nat → Int64} {Es : List String} {cd : String → Int32} {E : String} {c : Int32} (hL : LI ow w tn vn an R vv sc ar f) (h7 : AM G F7 as7 w (qx (.inr E) w)) (hE : E ∈ Es) (hc : cd E = c) (hc0 : c ≠ 0) (h8 : ∀ P T : List va_E, P.length = 12 → AM G F8 as8 (mw P sc ar T) (qe P T (fun _ sc2 ar2 => sc2 = upd sc 12 c ∧ ar2 = ar))) : AM G F7 as7 w (NQ ow w Es cd (RC G F8 as8 sc ar)) := by
  refine AM_post ?_ h7
  rintro r w' ⟨e, rfl⟩
  refine ⟨ow, kq_rf, Or.inr ⟨E, hE, e, _, h8, ?_⟩⟩
  rintro b sc2 ar2 ⟨rfl, rfl⟩
  rw [hc]
  exact ⟨upd_s _ _ _, fun z => absurd z hc0, tn, vn, an, R, vv, MI_12 hL.2.2.1 c, hL.2.2.2, hL.2.1⟩
/-- read: nothing has changed -/
theorem nx_get {G : aw_G} {F7 F8 : aw_F} {as7 as8 : List Value} {ow : Nat → Nat} {w : List va_E} {tn vn an : Nat} {R : Nat → List Int32} {vv : Nat → Nat} {sc : Nat → Int32} {ar : Nat → Nat → Int32} {f : Nat → Int64} {Es : List String} {cd : String → Int32} {v : Int32} (hL : LI ow w tn vn an R vv sc ar f) (h7 : AM G F7 as7 w (qx (.inl (some (.int v))) w)) (h8 : ∀ P T : List va_E, P.length = 12 → AM G F8 as8 (mw P sc ar T) (qe P T (fun b sc2 ar2 => b = v ∧ sc2 12 = 0 ∧ ∃ Ka, ag [] Ka (upd sc 12 0) ar sc2 ar2 ∧ (0 ∉ Ka ∧ 2 ∉ Ka ∧ 3 ∉ Ka ∧ 8 ∉ Ka) ∧ (4 ∉ Ka ∧ 7 ∉ Ka ∧ 9 ∉ Ka ∧ 10 ∉ Ka ∧ 11 ∉ Ka)))) : AM G F7 as7 w (NQ ow w Es cd (RC G F8 as8 sc ar)) := by
  refine AM_post ?_ h7
  rintro r w' ⟨e, rfl⟩
  refine ⟨ow, kq_rf, Or.inl ⟨v, e, _, h8, ?_⟩⟩
  rintro b sc2 ar2 ⟨rfl, h12, Ka, hag, hk1, hk2⟩
  exact ⟨h12, fun _ => rfl, tn, vn, an, R, vv, MI_ag (MI_12 hL.2.2.1 0) hag (by decide) hk1.2, SK_ag hL.2.2.2 hag hk2, CP_ag hL.2.1 hag hk1.1 hk2⟩
