/-! ===== the class: publish ===== -/
theorem drpU_bt {ty : Nat → Int32} {R : Nat → List Int32} {i : Nat} (hi : i < 32) : ∀ (m k : Nat) (s : Int32), k + m ≤ 32 → bt (drpU ty R k m s) i = (bt s i || (decide (k ≤ i ∧ i < k + m) && brkF ty (R i) i))
  | 0, k, s, _ => by rw [drpU, decide_eq_false (by omega), Bool.false_and, Bool.or_false]
  | m + 1, k, s, h => by
    rw [drpU, drpU_bt hi m (k + 1) _ (by omega), b_or]
    by_cases e : i = k
    · subst e
      rw [decide_eq_false (by omega), decide_eq_true (show i ≤ i ∧ i < i + (m + 1) by omega), Bool.false_and, Bool.or_false, Bool.true_and]
      congr 1
      split
      · rename_i h1; rw [bt_b1 hi hi, decide_eq_true rfl, h1]
      · rename_i h1; rw [b_0, Bool.eq_false_iff.mpr h1]
    · have e2 : decide (k + 1 ≤ i ∧ i < k + 1 + m) = decide (k ≤ i ∧ i < k + (m + 1)) := by
        congr 1
        exact propext ⟨fun z => by omega, fun z => by omega⟩
      rw [e2]
      congr 1
      split
      · rw [bt_b1 (by omega) hi, decide_eq_false e, Bool.or_false]
      · rw [b_0, Bool.or_false]
def drp9 (ty : Nat → Int32) (R : Nat → List Int32) : Int32 := drpU ty R 0 10 0
theorem drp_bit {ty : Nat → Int32} {R : Nat → List Int32} {f : Nat} (hf : f < 10) : bitI (drp9 ty R) f = brkF ty (R f) f := by
  unfold drp9
  rw [bitI_bt (by omega), drpU_bt (by omega) 10 0 0 (by decide), b_0, Bool.false_or, decide_eq_true (by omega), Bool.true_and]
theorem keep_tb {ty : Nat → Int32} {R : Nat → List Int32} {f : Nat} (hf : f < 10) : keepR (drp9 ty R) R f = tbR ty R 10 f := by
  unfold keepR tbR
  rw [drp_bit hf]
  by_cases h : brkF ty (R f) f = true
  · rw [if_pos h, if_pos ⟨hf, h⟩]
  · rw [if_neg h, if_neg (fun z => h z.2)]
theorem six_nI {x : Int32} (h : ∀ i, 6 ≤ i → i < 32 → bt x i = false) : ∃ n : Nat, n < 64 ∧ x = nI n := by
  obtain ⟨j, hj, e⟩ := pk_andE x (m := 63) 6 (by decide)
  refine ⟨j, hj, ?_⟩
  rw [← e]
  refine b_ext (fun i hi => ?_)
  have h63 : bt 63 i = decide (i < 6) := (by decide +kernel : ∀ i, i < 32 → bt 63 i = decide (i < 6)) i hi
  rw [b_and, h63]
  by_cases h6 : i < 6
  · rw [decide_eq_true h6, Bool.and_true]
  · rw [decide_eq_false h6, Bool.and_false, h i (by omega) hi]
theorem six_pos {x : Int32} (h : ∀ i, 6 ≤ i → i < 32 → bt x i = false) : 0 < x ↔ x ≠ 0 := by
  obtain ⟨n, hn, rfl⟩ := six_nI h
  exact ⟨fun z y => by rw [y] at z; exact absurd z (by decide), fun z => (nI_ltI (a := 0) (by decide) (by omega)).mpr (Nat.pos_of_ne_zero (fun y => z (by rw [y]; rfl)))⟩
theorem six_dbA {ty : Nat → Int32} {R : Nat → List Int32} {v : Nat} {drp db : Int32} (h : ∀ i, 6 ≤ i → i < 32 → bt db i = false) : ∀ i, 6 ≤ i → i < 32 → bt (dbA ty R v drp 0 6 db) i = false := fun i h6 hi => by
  rw [dbA_bt hi 6 0 db (by decide), h i h6 hi, decide_eq_false (by omega)]; rfl
theorem dbA_ne {ty : Nat → Int32} {R : Nat → List Int32} {v : Nat} {drp db : Int32} (h : db ≠ 0) : dbA ty R v drp 0 6 db ≠ 0 := fun z => h (b_zero.mpr (fun i hi => by
  have := b_zero.mp z i hi
  rw [dbA_bt hi 6 0 db (by decide)] at this
  cases hb : bt db i with
  | false => rfl
  | true => rw [hb] at this; cases this))
/-- a version is taken up -/
theorem CP_pub {ow : Nat → Nat} {w w' : List va_E} {tn vn an n : Nat} {R : Nat → List Int32} {vv : Nat → Nat} {ar : Nat → Nat → Int32} {gd2 : Nat → Option Nat} (hC : CP ow w tn vn an (tbR (ar 4) R 10) vv ar) (hvn : vn < 10) (hvv : ∀ a, a < an → vv a < vn) (hN : FM ow w 0 n (n + 1) (n + 2) (n + 3) (n + 4) (ar 4) (tbR (ar 4) R 10) gd2) (hH : HD ow w 0 (n + 4) (ordO (tbR (ar 4) R 10) 6 0 [])) {pv : Nat → Option Nat} (hpv : w[10]? = some (.inl (4, 10, .inr (.inr (.inr (.inr pv)))))) (hw' : w' = (w.set 10 (.inl (4, 10, .inr (.inr (.inr (.inr (va_up pv vn (some n)))))))).set 0 (c0W (vn + 1) an)) : kp ow ow [3, 5] w w' ∧ CP ow w' tn (vn + 1) an (pubR vn (drp9 (ar 4) R) R 10) vv (va_up ar 4 (pubT vn (ar 4) 6)) := by
  obtain ⟨⟨tx, p, k, l, lt, st, pn, hS, hc, hx⟩, ⟨gd, hM⟩, ⟨pv2, hp⟩, ⟨bg, hb⟩, hV, hA⟩ := hC
  have e9 := hp.2
  rw [hpv] at e9
  cases e9
  have hk1 : kp ow ow [3] w (w.set 10 (.inl (4, 10, .inr (.inr (.inr (.inr (va_up pv vn (some n)))))))) := kp_set hp.1 (List.mem_singleton.mpr rfl) (by decide)
  have hc0 := cl_kp hS.1 hk1 (by decide)
  have hk2 : kp ow ow [5] (w.set 10 (.inl (4, 10, .inr (.inr (.inr (.inr (va_up pv vn (some n)))))))) w' := by rw [hw']; exact kp_set hc0.1 (List.mem_singleton.mpr rfl) (by decide)
  have hk : kp ow ow [3, 5] w w' := kp_tr (kp_mono hk1 (by simp)) (kp_mono hk2 (by simp))
  have h0 : cl ow w' 5 0 (c0W (vn + 1) an) := by rw [hw']; exact cl_set hc0
  have h10 : cl ow w' 3 10 (.inl (4, 10, .inr (.inr (.inr (.inr (va_up pv vn (some n))))))) := by rw [hw']; exact cl_ne (cl_set hp) (by decide)
  have hmv : ∀ (i t : Nat) (e : va_E), t ≠ 3 → i ≠ 0 → cl ow w t i e → cl ow w' t i e := by
    intro i t e h4 hi h
    rw [hw']
    exact cl_ne (cl_kp h hk1 (by simpa using h4)) (fun z => hi z.symm)
  have eD : ∀ j, j < 10 → tbR (ar 4) R 10 j = pubR vn (drp9 (ar 4) R) R 10 j := fun j hj => by unfold pubR; rw [if_pos hj, keep_tb hj]
  have eT : ∀ j, j < 6 → ar 4 j = pubT vn (ar 4) 6 j := fun j hj => by unfold pubT; rw [if_neg (by omega)]
  have eV : ∀ v, v < vn → RA (pubR vn (drp9 (ar 4) R) R 10) v = RA (tbR (ar 4) R 10) v ∨ True := fun _ _ => Or.inr trivial
  have hRA : ∀ v, v < vn → ∀ k, k < 10 → RA (tbR (ar 4) R 10) v k = RA (pubR vn (drp9 (ar 4) R) R 10) v k := fun v hv k hk9 => by
    unfold RA tbR pubR
    rw [if_neg (by omega), if_neg (by omega), if_neg (by omega)]
  have hTA : ∀ v, v < vn → ∀ j, j < 6 → tyA ar v j = tyA (va_up ar 4 (pubT vn (ar 4) 6)) v j := fun v hv j hj => by
    unfold tyA pubT
    rw [va_up_self, if_neg (by omega)]
  have hord : ∀ (A B : Nat → List Int32), (∀ k, k < 10 → A k = B k) → ordO A 6 0 [] = ordO B 6 0 [] := by
    intro A B e
    have hc : ∀ (dn : Int32) (k : Nat), k < 6 → ∀ (m o : Nat) (c : Bool), o + m ≤ 6 → canO A dn k o m c = canO B dn k o m c := by
      intro dn k hk m
      induction m with
      | zero => intro o c _; rfl
      | succ m ih =>
        intro o c h
        rw [canO, canO]
        unfold wtO
        rw [e o (by omega), e k (by omega)]
        exact ih (o + 1) _ (by omega)
    have hf : ∀ (dn : Int32) (m k : Nat), k + m ≤ 6 → fndO A dn k m = fndO B dn k m := by
      intro dn m
      induction m with
      | zero => intro k _; rfl
      | succ m ih =>
        intro k h
        rw [fndO, fndO, hc dn k (by omega) 6 0 _ (by omega), ih (k + 1) (by omega)]
        have : wtO A dn k = wtO B dn k := by unfold wtO; rw [e k (by omega)]
        rw [this]
    have ho : ∀ (n : Nat) (dn : Int32) (acc : List Nat), ordO A n dn acc = ordO B n dn acc := by
      intro n
      induction n with
      | zero => intro dn acc; rfl
      | succ n ih =>
        intro dn acc
        rw [ordO, ordO, hf dn 6 0 (by omega)]
        cases fndO B dn 0 6 with
        | none => exact ih dn acc
        | some k => exact ih _ _
    exact ho 6 0 []
  refine ⟨hk, ⟨tx, p, k, l, lt, st, pn, ⟨h0, hmv 1 5 _ (by decide) (by decide) hS.2.1, hmv 2 5 _ (by decide) (by decide) hS.2.2.1, hmv 3 5 _ (by decide) (by decide) hS.2.2.2.1, hmv 4 5 _ (by decide) (by decide) hS.2.2.2.2⟩, hc, fun j hj => by rw [va_up_ne _ _ (by decide)]; exact hx j hj⟩, ⟨gd, by rw [va_up_self]; exact FM_ty (FM_cong (FM_kp hM hk (by decide) (by decide)) eD) eT⟩, ⟨_, h10⟩, ⟨bg, cl_kp hb hk (by decide)⟩, fun v hv => ?_, fun a ha => ?_⟩
  · by_cases e : v = vn
    · subst e
      have e1 : ∀ k, k < 10 → tbR (ar 4) R 10 k = RA (pubR v (drp9 (ar 4) R) R 10) v k := fun k hk9 => by
        unfold RA pubR
        rw [if_neg (by omega), if_pos (by omega), show 10 * (v + 1) + k - 10 * (v + 1) = k by omega, keep_tb hk9]
      have e2 : ∀ j, j < 6 → ar 4 j = tyA (va_up ar 4 (pubT v (ar 4) 6)) v j := fun j hj => by
        unfold tyA pubT
        rw [va_up_self, if_pos (by omega), show 6 * (v + 1) + j - 6 * (v + 1) = j by omega]
      refine ⟨n, ⟨_, h10.2, va_up_self ..⟩, ⟨gd2, FM_ty (FM_cong (FM_kp hN hk (by decide) (by decide)) e1) e2⟩, ?_⟩
      rw [← hord _ _ e1]
      exact HD_kp hH hk (by decide)
    · obtain ⟨a, ⟨pv3, q1, q2⟩, ⟨gd3, h7⟩, h8⟩ := hV v (by omega)
      rw [hpv] at q1
      cases q1
      refine ⟨a, ⟨_, h10.2, by rw [va_up_ne _ _ e]; exact q2⟩, ⟨gd3, FM_ty (FM_cong (FM_kp h7 hk (by decide) (by decide)) (hRA v (by omega))) (hTA v (by omega))⟩, ?_⟩
      rw [← hord _ _ (hRA v (by omega))]
      exact HD_kp h8 hk (by decide)
  · obtain ⟨b, fb, h6, ⟨pv3, q1, q2⟩, h8⟩ := hA a ha
    rw [hpv] at q1
    cases q1
    have hv := hvv a ha
    refine ⟨b, fb, ABq_kp h6 hb hk (by decide), ⟨_, h10.2, by rw [va_up_ne _ _ (by omega)]; exact q2⟩, ?_⟩
    rw [va_up_ne _ _ (by decide), va_up_ne _ _ (by decide), va_up_ne _ _ (by decide), va_up_ne _ _ (by decide)]
    exact AN_kp h8 hk (fun z => by
      rcases List.mem_cons.mp z with h4 | h4
      · omega
      · have := List.mem_singleton.mp h4; omega)
/-- the reference's arrays as answers are gone through -/
def arP (ar : Nat → Nat → Int32) (vn : Nat) (q : (Nat → Int32) × (Nat → Int32)) : Nat → Nat → Int32 := va_up (va_up (va_up ar 4 (pubT vn (ar 4) 6)) 7 q.1) 11 q.2
def xq_publish (ow : Nat → Nat) (w : List va_E) (tn vn an : Nat) (R : Nat → List Int32) (vv : Nat → Nat) (ar : Nat → Nat → Int32) : aw_R → List va_E → Prop := fun r w' => (vn = 10 ∧ r = .inr "java/lang/IllegalStateException" ∧ w' = w) ∨ (vn < 10 ∧ r = .inl (some (.int (nI vn))) ∧ ∃ ow' : Nat → Nat, kq ow ow' w w' ∧ CP ow' w' tn (vn + 1) an (pubR vn (drp9 (ar 4) R) R 10) vv (arP ar vn (pbA (ar 4) R vv (drp9 (ar 4) R) 0 an (ar 7, ar 11))))
theorem pb_step {ar : Nat → Nat → Int32} {R : Nat → List Int32} {vv : Nat → Nat} {k : Nat} {q : (Nat → Int32) × (Nat → Int32)} {X : Int32} (h6 : ∀ i, 6 ≤ i → i < 32 → bt (q.2 k) i = false) (h3 : q.1 k = 3 → q.2 k ≠ 0) (hX : X = dbA (ar 4) R (vv k) (drp9 (ar 4) R) 0 6 (q.2 k)) : (if q.1 k = 1 ∨ q.1 k = 3 then (upd q.1 k (if 0 < dbA (ar 4) R (vv k) (drp9 (ar 4) R) 0 6 (q.2 k) then 3 else q.1 k), upd q.2 k (dbA (ar 4) R (vv k) (drp9 (ar 4) R) 0 6 (q.2 k))) else q) = (upd q.1 k (if q.1 k = 1 ∨ q.1 k = 3 then (if X = 0 then 1 else 3) else q.1 k), upd q.2 k (if q.1 k = 1 ∨ q.1 k = 3 then X else q.2 k)) := by
  subst hX
  by_cases h : q.1 k = 1 ∨ q.1 k = 3
  · rw [if_pos h, if_pos h, if_pos h]
    congr 2
    by_cases hz : dbA (ar 4) R (vv k) (drp9 (ar 4) R) 0 6 (q.2 k) = 0
    · rw [if_neg (fun z => (six_pos (six_dbA h6)).mp z hz), if_pos hz]
      rcases h with e | e
      · exact e
      · exact absurd hz (dbA_ne (h3 e))
    · rw [if_pos ((six_pos (six_dbA h6)).mpr hz), if_neg hz]
  · rw [if_neg h, if_neg h, if_neg h, fa_upd_same9, fa_upd_same9]
section S31
set_option maxRecDepth 100000 in
set_option maxHeartbeats 4000000 in
theorem pl_loop {G : aw_G} {ow : Nat → Nat} {w0 : List va_E} {tn vn an : Nat} {R R9 : Nat → List Int32} {vv : Nat → Nat} {ar : Nat → Nat → Int32} (hI : SI tn vn an R vv ar) {n x : Nat} {R2 : Nat → List Int32} {gd2 : Nat → Option Nat} (hR9 : ∀ v, v < vn → ∀ k, k < 10 → RA R9 v k = R (10 * (v + 1) + k)) (hok9 : ∀ v, v < vn → ∀ k, k < 10 → okL (RA R9 v k)) (hvn : vn < 10) {Q : aw_R → List va_E → Prop} {q9 : (Nat → Int32) × (Nat → Int32)} (kk : ∀ w1, kq ow ow w0 w1 → CP ow w1 tn (vn + 1) an R9 vv (arP ar vn q9) → AW G fX7_publish 0 0 w1 97 [some (.ref 0), some (.ref x), some (.ref n), none, none] [] Q) : ∀ (m k : Nat) (q : (Nat → Int32) × (Nat → Int32)) (w1 : List va_E), k + m = an → kq ow ow w0 w1 → CP ow w1 tn (vn + 1) an R9 vv (arP ar vn q) → FM ow w1 0 n (n + 1) (n + 2) (n + 3) (n + 4) (ar 4) R2 gd2 → DA ow w1 9 x (tbD (ar 4) R 10) → (∀ j, k ≤ j → q.1 j = ar 7 j ∧ q.2 j = ar 11 j) → pbA (ar 4) R vv (drp9 (ar 4) R) k m q = q9 → AW G fX7_publish 0 0 w1 57 [some (.ref 0), some (.ref x), some (.ref n), some (.int (nI k)), none] [] Q := by
  obtain ⟨⟨hi1, hi2, hi3⟩, hiR, hiV, hiT, hiF, hiL, hiD, hiN⟩ := id hI
  have hRd : ∀ k, k < 10 → tbD (ar 4) R 10 k = if bitI (drp9 (ar 4) R) k = true then R k else [] := fun k hk => by
    unfold tbD
    rw [drp_bit hk]
    by_cases h : brkF (ar 4) (R k) k = true
    · rw [if_pos h, if_pos ⟨hk, h⟩]
    · rw [if_neg h, if_neg (fun z => h z.2)]
  have hdr : ∀ k, k < 10 → bitI (drp9 (ar 4) R) k = true → R k ≠ [] := fun k hk h => by
    rw [drp_bit hk] at h
    exact (of_decide_eq_true h).1
  have hty9 : ∀ {q : (Nat → Int32) × (Nat → Int32)}, ∀ v, v < vn → ∀ j, j < 6 → tyA (arP ar vn q) v j = ar 4 (6 * (v + 1) + j) := fun v hv j hj => by
    show pubT vn (ar 4) 6 (6 * (v + 1) + j) = _
    unfold pubT
    rw [if_neg (by omega)]
  intro m
  induction m with
  | zero =>
    intro k q w1 hk hkw hC hN hD hun hv
    have h00 := hC.1.choose_spec.choose_spec.choose_spec.choose_spec.choose_spec.choose_spec.choose_spec.1.1.2
    refine r_iload_n (pc := 57) dX7_publish_57 rfl rfl ?_
    refine r_aload_n (pc := 58) dX7_publish_58 rfl rfl ?_
    refine g_X7_37 (pc := 59) rfl h00 rfl dX7_publish_59 ?_
    refine r_icmp_ge (pc := 62) (tgt := 97) dX7_publish_62 (by decide) (fun h62 => ?_) (fun h => absurd (by rw [show k = an by omega]; exact Int32.le_refl _) h)
    refine AW_drop 3 rfl ?_
    have hv9 : q = q9 := hv
    subst hv9
    exact kk w1 hkw hC
  | succ m ih =>
    intro k q w1 hkm hkw hC hN hD hun hv
    have h00 := hC.1.choose_spec.choose_spec.choose_spec.choose_spec.choose_spec.choose_spec.choose_spec.1.1.2
    have hk : k < an := by omega
    have hk20 : k < 20 := by omega
    obtain ⟨b, fa, gd, hb, hf, hA, hM, hH⟩ := CP_at hC hk (by have := hiV k hk; omega)
    obtain ⟨bg, hq1, hq2⟩ := id hb
    refine r_iload_n (pc := 57) dX7_publish_57 rfl rfl ?_
    refine r_aload_n (pc := 58) dX7_publish_58 rfl rfl ?_
    refine g_X7_37 (pc := 59) rfl h00 rfl dX7_publish_59 ?_
    refine r_icmp_ge (pc := 62) (tgt := 97) dX7_publish_62 (by decide) (fun h => absurd h (nI_ge9 hk (by omega))) (fun h62 => ?_)
    refine r_iload_n (pc := 65) dX7_publish_65 rfl rfl ?_
    refine r_bipush (pc := 66) (v := 20) dX7_publish_66 (by decide) ?_
    refine r_icmp_ge (pc := 68) (tgt := 97) dX7_publish_68 (by decide) (fun h => absurd h (nI_ge9 hk20 (by decide))) (fun h68 => ?_)
    refine r_aload_n (pc := 71) dX7_publish_71 rfl rfl ?_
    refine g_X7_33 (pc := 72) rfl h00 rfl dX7_publish_72 ?_
    refine r_iload_n (pc := 75) dX7_publish_75 rfl rfl ?_
    refine r_aaload (pc := 76) (t := 6) (fun _ => rfl) hq1 (vp_in_nI (n := k) hk20 (Nat.le_of_ble_eq_true rfl)) dX7_publish_76 ?_
    rw [nI_clamp (by omega), hq2]
    refine r_astore (pc := 77) dX7_publish_77 (Nat.le_of_ble_eq_true rfl) rfl ?_
    refine r_aload (pc := 79) dX7_publish_79 rfl ?_
    refine r_ifnull (pc := 81) dX7_publish_81 ?_
    refine r_aload (pc := 84) dX7_publish_84 rfl ?_
    refine r_aload_n (pc := 86) dX7_publish_86 rfl rfl ?_
    refine r_aload_n (pc := 87) dX7_publish_87 rfl rfl ?_
    refine s_X7_126 (pc := 88) (kc' := 0) (ks' := 0) rfl rfl (aa_meetVersion hA hM hN hD (by omega)) hA.1.2 (Nat.le_of_ble_eq_true rfl) (Nat.le_of_ble_eq_true rfl) (Nat.le_of_ble_eq_true rfl) (Nat.le_of_ble_eq_true rfl) (by exact (Nat.le_of_ble_eq_true rfl)) rfl (List.forall_mem_cons.mpr ⟨rfl, (List.forall_mem_cons.mpr ⟨rfl, (List.forall_mem_cons.mpr ⟨rfl, fun _ h => nomatch h⟩)⟩)⟩) rfl dX7_publish_88 aw_tA (aw_kA (fun w2 hk2 hA2 => ?_))
    have hX := fall_eq (ty := ar 4) (R := R) (R6 := RA R9 (vv k)) (Rd := tbD (ar 4) R 10) (ty1 := tyA (arP ar vn q) (vv k)) (ty2 := ar 4) (v := vv k) (drp := drp9 (ar 4) R) (db := q.2 k) (hR9 _ (hiV k hk)) (hok9 _ (hiV k hk)) hRd hdr (fun j hj => hty9 _ (hiV k hk) j hj) (fun _ _ => rfl)
    have hq7 : (arP ar vn q) 7 k = q.1 k := rfl
    have hq11 : (arP ar vn q) 11 k = q.2 k := rfl
    rw [hq7, hq11] at hA2
    rw [hX] at hA2
    have h6k : ∀ i, 6 ≤ i → i < 32 → bt (q.2 k) i = false := by rw [(hun k (Nat.le_refl _)).2]; exact (hiD k hk).1
    have h3k : q.1 k = 3 → q.2 k ≠ 0 := by rw [(hun k (Nat.le_refl _)).1, (hun k (Nat.le_refl _)).2]; exact (hiD k hk).2.2
    have hv := hv
    rw [pbA, pb_step (ar := ar) (R := R) (vv := vv) h6k h3k rfl] at hv
    have hC2 := CP_ans (ar' := arP ar vn (upd q.1 k (if q.1 k = 1 ∨ q.1 k = 3 then (if dbA (ar 4) R (vv k) (drp9 (ar 4) R) 0 6 (q.2 k) = 0 then 1 else 3) else q.1 k), upd q.2 k (if q.1 k = 1 ∨ q.1 k = 3 then dbA (ar 4) R (vv k) (drp9 (ar 4) R) 0 6 (q.2 k) else q.2 k))) hC hk hb hf (kp_mono hk2 (by simp)) hA2 rfl rfl (upd_s _ _ _) (upd_s _ _ _) (fun _ _ => rfl) (fun _ _ => rfl) (fun a' ha' hne => ⟨upd_n _ _ hne, upd_n _ _ hne, fun _ _ => rfl, fun _ _ => rfl⟩)
    refine r_iincK (pc := 91) (k9 := 1) dX7_publish_91 (by decide) rfl (Nat.le_of_ble_eq_true rfl) rfl ?_
    refine r_goto (pc := 94) (tgt := 57) dX7_publish_94 (by decide) ?_
    refine AW_drop 4 rfl ?_
    rw [nI_1]
    refine ih (k + 1) _ w2 (by omega) (kq_tr hkw (kp_kq hk2 (by simp; omega) (by simp; omega))) hC2 (FM_kp hN hk2 (n0a) (n0a)) (DA_kp hD hk2 (by simp; omega) n0a) (fun j hj => ?_) hv
    exact ⟨(upd_n _ _ (by omega)).trans (hun j (by omega)).1, (upd_n _ _ (by omega)).trans (hun j (by omega)).2⟩
set_option maxRecDepth 100000 in
set_option maxHeartbeats 4000000 in
theorem ax_publish {G : aw_G} {ow : Nat → Nat} {w : List va_E} {tn vn an : Nat} {R : Nat → List Int32} {vv : Nat → Nat} {ar : Nat → Nat → Int32} (hC : CP ow w tn vn an R vv ar) (hI : SI tn vn an R vv ar) : AM G fX7_publish [.ref 0] w (xq_publish ow w tn vn an R vv ar) := by
  refine AM_of (by decide) rfl rfl (Nat.le_of_ble_eq_true rfl) ?_
  show AW G fX7_publish 7 116 w 0 [some (.ref 0), none, none, none, none] [] _
  obtain ⟨⟨hi1, hi2, hi3⟩, hiR, hiV, hiT, hiF, hiL, hiD, hiN⟩ := id hI
  obtain ⟨⟨tx, p9, k9, l9, lt9, st9, pn9, hS, hch, htx⟩, -, -, -, -, -⟩ := id hC
  have h00 := hS.1.2
  obtain ⟨gd, hM⟩ := hC.2.1
  refine r_aload_n (pc := 0) dX7_publish_0 rfl rfl ?_
  refine g_X7_27 (pc := 1) rfl h00 rfl dX7_publish_1 ?_
  refine r_bipush (pc := 4) (v := 10) dX7_publish_4 (by decide) ?_
  refine r_icmp_lt (pc := 6) (tgt := 19) dX7_publish_6 (by decide) (fun h6 => ?_) (fun h6 => ?_)
  · have hvn : vn < 10 := (nI_ltI (a := vn) (b := 10) (by omega) (by decide)).mp h6
    refine r_aload_n (pc := 19) dX7_publish_19 rfl rfl ?_
    refine g_X7_19 (pc := 20) rfl h00 rfl dX7_publish_20 ?_
    refine s_X7_118 (pc := 23) (kc' := 6) (ks' := 106) rfl rfl (ac_takeBroken hM (by decide) (by decide) (by decide)) hM.1.2 (Nat.le_of_ble_eq_true rfl) (Nat.le_of_ble_eq_true rfl) (Nat.le_of_ble_eq_true rfl) (Nat.le_of_ble_eq_true rfl) (by exact (Nat.le_of_ble_eq_true rfl)) rfl (List.forall_mem_cons.mpr ⟨rfl, fun _ h => nomatch h⟩) rfl dX7_publish_23 (fun E w9 hq _ => by obtain ⟨o9, z, -⟩ := hq; cases z) (fun r w1 hq _ => ?_)
    obtain ⟨ow1, e9, hk1, ⟨gd1, hM1⟩, hD1⟩ := hq
    cases e9
    have hC1 := CP_dr hC hk1 (by simp) hM1 (fun i hi => if_neg (fun z => by omega)) (fun i _ => rfl)
    rw [vaup_id] at hC1
    have h00 := hC1.1.choose_spec.choose_spec.choose_spec.choose_spec.choose_spec.choose_spec.choose_spec.1.1.2
    have hokT : ∀ k, k < 10 → okL (tbR (ar 4) R 10 k) := fun k hk => by
      unfold tbR
      split
      · exact fun c hc => by cases hc
      · exact SI_ok hI k (by omega)
    refine r_astore_n (pc := 26) dX7_publish_26 rfl (Nat.le_of_ble_eq_true rfl) rfl ?_
    refine r_aload_n (pc := 27) dX7_publish_27 rfl rfl ?_
    refine g_X7_19 (pc := 28) rfl h00 rfl dX7_publish_28 ?_
    refine s_X7_122 (pc := 31) (kc' := 1) (ks' := 6) rfl rfl (ac_frozen hM1 (by decide) hokT) hM1.1.2 (Nat.le_of_ble_eq_true rfl) (Nat.le_of_ble_eq_true rfl) (Nat.le_of_ble_eq_true rfl) (Nat.le_of_ble_eq_true rfl) (by exact (Nat.le_of_ble_eq_true rfl)) rfl (List.forall_mem_cons.mpr ⟨rfl, fun _ h => nomatch h⟩) rfl dX7_publish_31 (fun E w9 hq _ => by obtain ⟨o9, z, -⟩ := hq; cases z) (fun r w2 hq _ => ?_)
    obtain ⟨ow2, e9, hk2, ⟨gd2, hN2⟩, hH2⟩ := hq
    cases e9
    have hC2 := CP_kp hC1 hk2 (by decide) (by decide) (by decide) (by decide) (by decide) (fun a z => by have := List.mem_singleton.mp z; omega)
    have hD2 := DA_kp hD1 hk2 (by decide) (by decide)
    have h00 := hC2.1.choose_spec.choose_spec.choose_spec.choose_spec.choose_spec.choose_spec.choose_spec.1.1.2
    obtain ⟨pv, hpv⟩ := hC2.2.2.1
    refine r_astore_n (pc := 34) dX7_publish_34 rfl (Nat.le_of_ble_eq_true rfl) rfl ?_
    refine r_aload_n (pc := 35) dX7_publish_35 rfl rfl ?_
    refine g_X7_23 (pc := 36) rfl h00 rfl dX7_publish_36 ?_
    refine r_aload_n (pc := 39) dX7_publish_39 rfl rfl ?_
    refine g_X7_27 (pc := 40) rfl h00 rfl dX7_publish_40 ?_
    refine r_aload_n (pc := 43) dX7_publish_43 rfl rfl ?_
    refine r_aastore (pc := 44) (t := 4) (ci := 1) (fun _ => rfl) hpv.2 hN2.1.2 rfl (vp_in_nI (n := vn) hvn (Nat.le_of_ble_eq_true rfl)) dX7_publish_44 (by rw [nI_clamp (by omega)]) ?_
    have h03 : (w2.set 10 (.inl (4, 10, .inr (.inr (.inr (.inr (va_up pv vn (some w1.length))))))))[0]? = some (c0W vn an) := by rw [List.getElem?_set_ne (by decide)]; exact h00
    refine r_aload_n (pc := 45) dX7_publish_45 rfl rfl ?_
    refine r_dup (pc := 46) dX7_publish_46 rfl ?_
    refine g_X7_27 (pc := 47) rfl h03 rfl dX7_publish_47 ?_
    refine r_iconst (pc := 50) (v := 1) dX7_publish_50 (by decide) ?_
    refine r_iadd (pc := 51) dX7_publish_51 ?_
    rw [nI_1]
    refine p_X7_27 (pc := 52) rfl h03 (Nat.le_of_ble_eq_true rfl) dX7_publish_52 rfl ?_
    have hpub := CP_pub hC2 hvn hiV hN2 hH2 hpv.2 rfl
    have hN3 := FM_kp hN2 hpub.1 (by decide) (by decide)
    have hD3 := DA_kp hD2 hpub.1 (by decide) (by decide)
    refine r_iconst (pc := 55) (v := 0) dX7_publish_55 (by decide) ?_
    refine r_istore_n (pc := 56) dX7_publish_56 rfl (Nat.le_of_ble_eq_true rfl) rfl ?_
    refine AW_weak (Nat.zero_le _) (Nat.zero_le _) (fun _ _ z => z) ?_
    refine pl_loop (w0 := _) hI (R9 := pubR vn (drp9 (ar 4) R) R 10) (fun v hv k hk => ?_) (fun v hv k hk => ?_) hvn (fun w9 hkw hC9 => ?_) an 0 (ar 7, ar 11) _ (Nat.zero_add _) kq_rf (by
      have h := hpub.2
      exact CP_ar h (fun _ _ => rfl) rfl (fun _ _ => ⟨rfl, rfl, fun _ _ => rfl, fun _ _ => rfl⟩)) hN3 hD3 (fun _ _ => ⟨rfl, rfl⟩) rfl
    · unfold RA pubR
      rw [if_neg (by omega), if_neg (by omega)]
    · have e : RA (pubR vn (drp9 (ar 4) R) R 10) v k = R (10 * (v + 1) + k) := by
        unfold RA pubR
        rw [if_neg (by omega), if_neg (by omega)]
      rw [e]
      exact SI_ok hI _ (by omega)
    · have h00 := hC9.1.choose_spec.choose_spec.choose_spec.choose_spec.choose_spec.choose_spec.choose_spec.1.1.2
      refine r_aload_n (pc := 97) dX7_publish_97 rfl rfl ?_
      refine g_X7_27 (pc := 98) rfl h00 rfl dX7_publish_98 ?_
      refine r_iconst (pc := 101) (v := 1) dX7_publish_101 (by decide) ?_
      refine r_isub (pc := 102) dX7_publish_102 ?_
      refine r_iret (pc := 103) rfl rfl dX7_publish_103 ?_
      refine Or.inr ⟨hvn, ?_, ow2, kq_tr (kp_kq hk1 (by decide) (by decide)) (kq_tr (kp_kq hk2 (by decide) (by decide)) (kq_tr (kp_kq hpub.1 (by decide) (by decide)) hkw)), hC9⟩
      rw [show nI (vn + 1) - 1 = nI vn from nI_pred vn]
  · refine t_ise (pc := 9) (text := "there are 10 versions") rfl rfl (by decide) dX7_publish_9 dX7_publish_12 dX7_publish_13 dX7_publish_15 dX7_publish_18 (Nat.le_of_ble_eq_true rfl) (Nat.le_of_ble_eq_true rfl) (Nat.le_of_ble_eq_true rfl) (Nat.le_of_ble_eq_true rfl) ?_
    exact Or.inl ⟨Nat.le_antisymm hi2 (Nat.le_of_not_lt (fun z => h6 (nI_lt (a := vn) (b := 10) z (by decide)))), rfl, rfl⟩

end S31
