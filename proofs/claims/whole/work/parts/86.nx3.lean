/-! ===== handIn, amend, begin, publish: the class's end fits the reference's ===== -/
theorem pbA_hi {ty : Nat → Int32} {R : Nat → List Int32} {vv : Nat → Nat} {drp : Int32} {j : Nat} : ∀ (m a : Nat) (q : (Nat → Int32) × (Nat → Int32)), a + m ≤ j → (pbA ty R vv drp a m q).1 j = q.1 j ∧ (pbA ty R vv drp a m q).2 j = q.2 j
  | 0, _, _, _ => ⟨rfl, rfl⟩
  | m + 1, a, q, h => by
    rw [pbA]
    obtain ⟨h1, h2⟩ := pbA_hi (j := j) m (a + 1) (if q.1 a = 1 ∨ q.1 a = 3 then (upd q.1 a (if 0 < dbA ty R (vv a) drp 0 6 (q.2 a) then 3 else q.1 a), upd q.2 a (dbA ty R (vv a) drp 0 6 (q.2 a))) else q) (by omega)
    rw [h1, h2]
    split
    · exact ⟨upd_n _ _ (by omega), upd_n _ _ (by omega)⟩
    · exact ⟨rfl, rfl⟩
def pOK (st db : Int32) : Prop := (∀ i, 6 ≤ i → i < 32 → bt db i = false) ∧ (st = 1 → db = 0) ∧ (st = 3 → db ≠ 0)
theorem pbA_ok {ty : Nat → Int32} {R : Nat → List Int32} {vv : Nat → Nat} {drp : Int32} {n : Nat} : ∀ (m a : Nat) (q : (Nat → Int32) × (Nat → Int32)), (∀ j, j < n → pOK (q.1 j) (q.2 j)) → a + m ≤ n → ∀ j, j < n → pOK ((pbA ty R vv drp a m q).1 j) ((pbA ty R vv drp a m q).2 j)
  | 0, _, _, h, _ => h
  | m + 1, a, q, h, hn => by
    rw [pbA]
    refine pbA_ok m (a + 1) _ (fun j hj => ?_) (by omega)
    split
    · rename_i hc
      by_cases e : j = a
      · subst e
        rw [show (upd q.1 j (if 0 < dbA ty R (vv j) drp 0 6 (q.2 j) then 3 else q.1 j), upd q.2 j (dbA ty R (vv j) drp 0 6 (q.2 j))).1 j = _ from upd_s _ _ _, show (upd q.1 j (if 0 < dbA ty R (vv j) drp 0 6 (q.2 j) then 3 else q.1 j), upd q.2 j (dbA ty R (vv j) drp 0 6 (q.2 j))).2 j = _ from upd_s _ _ _]
        obtain ⟨h1, h2, h3⟩ := h j hj
        have h6 := six_dbA (ty := ty) (R := R) (v := vv j) (drp := drp) h1
        refine ⟨h6, fun z => ?_, fun z => ?_⟩
        · by_cases hp : 0 < dbA ty R (vv j) drp 0 6 (q.2 j)
          · rw [if_pos hp] at z; exact absurd z (by decide)
          · exact Classical.not_not.mp (fun y => hp ((six_pos h6).mpr y))
        · by_cases hp : 0 < dbA ty R (vv j) drp 0 6 (q.2 j)
          · exact (six_pos h6).mp hp
          · rw [if_neg hp] at z; exact dbA_ne (h3 z)
      · rw [show (upd q.1 a (if 0 < dbA ty R (vv a) drp 0 6 (q.2 a) then 3 else q.1 a), upd q.2 a (dbA ty R (vv a) drp 0 6 (q.2 a))).1 j = q.1 j from upd_n _ _ e, show (upd q.1 a (if 0 < dbA ty R (vv a) drp 0 6 (q.2 a) then 3 else q.1 a), upd q.2 a (dbA ty R (vv a) drp 0 6 (q.2 a))).2 j = q.2 j from upd_n _ _ e]
        exact h j hj
    · exact h j hj
theorem CP_01 {ow : Nat → Nat} {w : List va_E} {tn vn an : Nat} {R : Nat → List Int32} {vv : Nat → Nat} {ar : Nat → Nat → Int32} (hC : CP ow w tn vn an R vv ar) {a : Nat} (ha : a < an) {j : Nat} (hj : j < 6) (h : ar 10 (6 * a + j) ≠ 0) : ar 10 (6 * a + j) = 1 := by
  obtain ⟨b, fa, -, -, -, kn, vd, -, -, -, h4⟩ := hC.2.2.2.2.2 a ha
  have h5 := h4 j hj
  cases hb : bitI kn j with
  | false => rw [hb] at h5; exact absurd h5 h
  | true => rw [hb] at h5; exact h5
theorem cntU_0 {p : Nat → Bool} : ∀ (m k : Nat), cntU p k m = 0 → ∀ j, k ≤ j → j < k + m → p j = false
  | 0, k, _, j, h1, h2 => by omega
  | m + 1, k, h, j, h1, h2 => by
    rw [cntU] at h
    by_cases e : j = k
    · subst e
      cases hp : p j with
      | false => rfl
      | true => rw [if_pos hp] at h; omega
    · exact cntU_0 m (k + 1) (by omega) j (by omega) (by omega)
theorem hasC_1 {f : Nat} : ∀ (l : List Nat) (h : Nat → Int32), h f = 1 → hasC l h f = 1
  | [], h, e => e
  | k :: l, h, e => hasC_1 l _ (by
    by_cases z : f = k
    · subst z; rw [upd_s]
    · rw [upd_n _ _ z]; exact e)
section NX3
variable {G : aw_G} {ow : Nat → Nat} {w : List va_E} {tn vn an : Nat} {R : Nat → List Int32} {vv : Nat → Nat} {sc : Nat → Int32} {ar : Nat → Nat → Int32} {fo : Nat → Int64}
theorem nx_handIn (hL : LI ow w tn vn an R vv sc ar fo) (x : Int32) : AM G fX7_handIn [.ref 0, .int x] w (NQ ow w ["java/lang/IndexOutOfBoundsException", "java/lang/IllegalStateException"] cdT (RC G fX8_handIn [.ref 12, .int x] sc ar)) := by
  obtain ⟨hB, hC, hM, hK⟩ := id hL
  have hI := hK.1
  by_cases hb : 0 ≤ x ∧ x ≤ nI an - 1
  · obtain ⟨a, ha, rfl⟩ := inV_nat hI.1.2.2 hb
    have hd := hI.2.2.2.2.2.2.1 a ha
    have hv := hI.2.2.1 a ha
    have eC := cmpL_C (R6 := RA R (vv a)) (a := a) (ordO (RA R (vv a)) 6 0 []) (ar 9)
    have eH := hasL_C (a := a) (ordO (RA R (vv a)) 6 0 []) (ar 10)
    have eS : stJ (refU (fun j => cmpL (RA R (vv a)) a (ordO (RA R (vv a)) 6 0 []) (ar 9) (6 * a + j)) (RA R (vv a)) 6 4) (ar 11 a) = stC (refU (cmpC (RA R (vv a)) (ordO (RA R (vv a)) 6 0 []) (fun j => ar 9 (6 * a + j))) (RA R (vv a)) 6 4) (ar 11 a) := by rw [eC]; exact stJ_C hd.1
    refine AM_post ?_ (ax_handIn hC hI ha)
    rintro r w' (⟨h1, e, rfl⟩ | ⟨h1, e, hZ⟩)
    · refine ⟨ow, kq_rf, Or.inr ⟨_, List.mem_cons_of_mem _ (List.mem_cons_self ..), e, _, fun P T hP => am_handIn hP hM a ha, ?_⟩⟩
      rintro b sc2 ar2 (⟨-, rfl, rfl⟩ | ⟨h3, -⟩)
      · exact ⟨upd_s _ _ _, fun z => absurd z (by decide), tn, vn, an, R, vv, MI_12 hM 2, hK, hC⟩
      · exact absurd h3 h1
    · refine ⟨ow, AZ_kq hZ, Or.inl ⟨_, e, _, fun P T hP => am_handIn hP hM a ha, ?_⟩⟩
      rintro b sc2 ar2 (⟨h3, -⟩ | ⟨-, hag, hvb, e7, e9, e10⟩)
      · exact absurd h1 h3
      · have hlm := ordO_mem (R6 := RA R (vv a)) 6 0 [] (fun _ z => nomatch z)
        have hlr := ordO_ne (R6 := RA R (vv a)) 6 0 [] (fun _ z => nomatch z)
        have e7a : ar2 7 a = stC (refU (cmpC (RA R (vv a)) (ordO (RA R (vv a)) 6 0 []) (fun j => ar 9 (6 * a + j))) (RA R (vv a)) 6 4) (ar 11 a) := by rw [e7, upd_s]; exact eS
        have e11 : ar2 11 = ar 11 := hag.2 11 (by decide)
        have e9a : ∀ j, ar2 9 (6 * a + j) = cmpC (RA R (vv a)) (ordO (RA R (vv a)) 6 0 []) (fun j => ar 9 (6 * a + j)) j := fun j => by rw [e9]; exact congrFun eC j
        have e10a : ∀ j, ar2 10 (6 * a + j) = hasC (ordO (RA R (vv a)) 6 0 []) (fun j => ar 10 (6 * a + j)) j := fun j => by rw [e10]; exact congrFun eH j
        have hea : ∀ a', a' ≠ a → ar2 7 a' = ar 7 a' ∧ ar2 11 a' = ar 11 a' ∧ ∀ j, j < 6 → ar2 9 (6 * a' + j) = ar 9 (6 * a' + j) ∧ ar2 10 (6 * a' + j) = ar 10 (6 * a' + j) := fun a' h => ⟨by rw [e7, upd_n _ _ h], by rw [e11], fun j hj => ⟨by rw [e9]; exact cmpL_n hj h _ _ hlm, by rw [e10]; exact hasL_n hj h _ _ hlm⟩⟩
        refine ⟨(hag.1 12 (by decide)).trans (upd_s _ _ _), fun _ => ?_, tn, vn, an, R, vv, MI_ag (MI_12 hM 0) hag (by decide) (by decide), SK_ans hK ha (hag.2 4 (by decide)) (fun j hj => ?_) ⟨by rw [e11]; exact hd.1, by rw [e7a, e11]; exact stC_ok.1, by rw [e7a, e11]; exact stC_ok.2⟩ hea (fun _ f2 hf2 hc2 => ?_), CP_AZ hC ha hZ (hag.2 0 (by decide)) (hag.2 4 (by decide)) e7a (by rw [e11]) (fun j _ => (e9a j).symm) (fun j _ => (e10a j).symm) hea⟩
        · rw [hvb]; exact eS.symm
        · rw [e9a]; exact cmpC_fl (SI_hfl hC hI hv) _ _ hlm hlr (hI.2.2.2.2.2.1 a ha) j hj
        · rw [e10a]
          refine hasC_1 _ _ (CP_01 hC ha hf2 (fun z => ?_))
          have h9 := cntU_0 6 0 h1.2 f2 (Nat.zero_le _) (by omega)
          rw [show (decide (tyA ar (vv a) f2 ≠ 0) && decide (RA R (vv a) f2 = [])) = true from hc2, Bool.true_and] at h9
          exact absurd z (of_decide_eq_false h9)
  · exact nx_bad hL (ax_handInX hC hI hb) (List.mem_cons_self ..) rfl (show (1 : Int32) ≠ 0 by decide) (fun P T hP => am_handInX hP x (by rw [hM.2.2.2.2.1]; exact hb))
theorem nx_amend (hL : LI ow w tn vn an R vv sc ar fo) (x f g : Int32) : AM G fX7_amend [.ref 0, .int x, .int f, .int g] w (NQ ow w ["java/lang/IndexOutOfBoundsException", "java/lang/IllegalStateException", "java/lang/IllegalArgumentException"] cdP (RC G fX8_amend [.ref 12, .int x, .int f, .int g] sc ar)) := by
  obtain ⟨hB, hC, hM, hK⟩ := id hL
  have hI := hK.1
  by_cases hb : (0 ≤ x ∧ x ≤ nI an - 1) ∧ (0 ≤ f ∧ f ≤ 5)
  · obtain ⟨a, ha, rfl⟩ := inV_nat hI.1.2.2 hb.1
    obtain ⟨j, hj, rfl⟩ := inF_nat hb.2
    have hd := hI.2.2.2.2.2.2.1 a ha
    have hv := hI.2.2.1 a ha
    refine AM_post ?_ (ax_amend hC hI ha hj g)
    rintro r w' (⟨h1, e, rfl⟩ | ⟨h1, h2, e, rfl⟩ | ⟨h1, h2, e, hZ⟩)
    · refine ⟨ow, kq_rf, Or.inr ⟨_, List.mem_cons_of_mem _ (List.mem_cons_self ..), e, _, fun P T hP => am_amend hP hM a ha j hj g, ?_⟩⟩
      rintro b sc2 ar2 (⟨-, rfl, rfl⟩ | ⟨h3, -⟩ | ⟨h3, -⟩)
      · exact ⟨upd_s _ _ _, fun z => absurd z (by decide), tn, vn, an, R, vv, MI_12 hM 2, hK, hC⟩
      · exact absurd h3 h1
      · exact absurd h3 h1
    · refine ⟨ow, kq_rf, Or.inr ⟨_, List.mem_cons_of_mem _ (List.mem_cons_of_mem _ (List.mem_cons_self ..)), e, _, fun P T hP => am_amend hP hM a ha j hj g, ?_⟩⟩
      rintro b sc2 ar2 (⟨h3, -⟩ | ⟨-, -, rfl, rfl⟩ | ⟨-, h3, -⟩)
      · exact absurd h1 h3
      · exact ⟨upd_s _ _ _, fun z => absurd z (by decide), tn, vn, an, R, vv, MI_12 hM 3, hK, hC⟩
      · exact absurd h3 h2
    · refine ⟨ow, AZ_kq hZ, Or.inl ⟨_, e, _, fun P T hP => am_amend hP hM a ha j hj g, ?_⟩⟩
      rintro b sc2 ar2 (⟨h3, -⟩ | ⟨-, h3, -⟩ | ⟨-, -, hag, hvb, e7, e9, e10x⟩)
      · exact absurd h1 h3
      · exact absurd h2 h3
      · have hlm := ordO_mem (R6 := RA R (vv a)) 6 0 [] (fun _ z => nomatch z)
        have hlr := ordO_ne (R6 := RA R (vv a)) 6 0 [] (fun _ z => nomatch z)
        have eC := cmpL_C (R6 := RA R (vv a)) (a := a) (ordO (RA R (vv a)) 6 0 []) (upd (ar 9) (6 * a + j) g)
        rw [upd_off (ar 9) a j g] at eC
        have eH := hasL_C (a := a) (ordO (RA R (vv a)) 6 0 []) (ar 10)
        have hN := six_and (x := b1 j ^^^ (-1)) hd.1
        have eS : stJ (refU (fun i => cmpL (RA R (vv a)) a (ordO (RA R (vv a)) 6 0 []) (upd (ar 9) (6 * a + j) g) (6 * a + i)) (RA R (vv a)) 6 4) (ar 11 a &&& (b1 j ^^^ (-1))) = stC (refU (cmpC (RA R (vv a)) (ordO (RA R (vv a)) 6 0 []) (upd (fun i => ar 9 (6 * a + i)) j g)) (RA R (vv a)) 6 4) (ar 11 a &&& (b1 j ^^^ (-1))) := by rw [eC]; exact stJ_C hN
        have h1v : ar 10 (6 * a + j) = 1 := hK.2 a ha (by rw [h1.1]; decide) j hj h1.2
        have eH2 : upd (fun i => ar 10 (6 * a + i)) j 1 = fun i => ar 10 (6 * a + i) := by
          funext i
          by_cases z : i = j
          · subst z; rw [upd_s]; exact h1v.symm
          · rw [upd_n _ _ z]
        rw [eH2] at hZ
        have e10 := e10x.1
        have e11 := e10x.2
        have e7a : ar2 7 a = stC (refU (cmpC (RA R (vv a)) (ordO (RA R (vv a)) 6 0 []) (upd (fun i => ar 9 (6 * a + i)) j g)) (RA R (vv a)) 6 4) (ar 11 a &&& (b1 j ^^^ (-1))) := by rw [e7, upd_s]; exact eS
        have e11a : ar2 11 a = ar 11 a &&& (b1 j ^^^ (-1)) := by rw [e11, upd_s]
        have e9a : ∀ i, ar2 9 (6 * a + i) = cmpC (RA R (vv a)) (ordO (RA R (vv a)) 6 0 []) (upd (fun i => ar 9 (6 * a + i)) j g) i := fun i => by rw [e9]; exact congrFun eC i
        have e10a : ∀ i, ar2 10 (6 * a + i) = hasC (ordO (RA R (vv a)) 6 0 []) (fun i => ar 10 (6 * a + i)) i := fun i => by rw [e10]; exact congrFun eH i
        have hea : ∀ a', a' ≠ a → ar2 7 a' = ar 7 a' ∧ ar2 11 a' = ar 11 a' ∧ ∀ i, i < 6 → ar2 9 (6 * a' + i) = ar 9 (6 * a' + i) ∧ ar2 10 (6 * a' + i) = ar 10 (6 * a' + i) := fun a' h => ⟨by rw [e7, upd_n _ _ h], by rw [e11, upd_n _ _ h], fun i hi => ⟨by rw [e9]; exact (cmpL_n hi h _ _ hlm).trans (upd_n _ _ (by omega)), by rw [e10]; exact hasL_n hi h _ _ hlm⟩⟩
        refine ⟨(hag.1 12 (by decide)).trans (upd_s _ _ _), fun _ => ?_, tn, vn, an, R, vv, MI_ag (MI_12 hM 0) hag (by decide) (by decide), SK_ans hK ha (hag.2 4 (by decide)) (fun i hi => ?_) ⟨by rw [e11a]; exact hN, by rw [e7a, e11a]; exact stC_ok.1, by rw [e7a, e11a]; exact stC_ok.2⟩ hea (fun _ f2 hf2 hc2 => ?_), CP_AZ hC ha hZ (hag.2 0 (by decide)) (hag.2 4 (by decide)) e7a e11a (fun i _ => (e9a i).symm) (fun i _ => (e10a i).symm) hea⟩
        · rw [hvb]; exact eS.symm
        · rw [e9a]; exact cmpC_fl (SI_hfl hC hI hv) _ _ hlm hlr (upd_fl (hI.2.2.2.2.2.1 a ha) hj (fl_right h2)) i hi
        · rw [e10a]
          exact hasC_1 _ _ (hK.2 a ha (by rw [h1.1]; decide) f2 hf2 hc2)
  · exact nx_bad hL (ax_amendX hC hI hb) (List.mem_cons_self ..) rfl (show (1 : Int32) ≠ 0 by decide) (fun P T hP => am_amendX hP x f g (by rw [hM.2.2.2.2.1]; exact hb))
theorem nx_begin (hL : LI ow w tn vn an R vv sc ar fo) : AM G fX7_begin [.ref 0] w (NQ ow w ["java/lang/IllegalStateException"] cd1 (RC G fX8_begin [.ref 12] sc ar)) := by
  obtain ⟨hB, hC, hM, hK⟩ := id hL
  have hI := hK.1
  refine AM_post ?_ (ax_begin hC hI)
  rintro r w' (⟨h1, e, rfl⟩ | ⟨h1, e, ow', hk, hc⟩)
  · refine ⟨ow, kq_rf, Or.inr ⟨_, List.mem_cons_self .., e, _, fun P T hP => am_begin hP hM, ?_⟩⟩
    rintro b sc2 ar2 (⟨-, rfl, rfl⟩ | ⟨h2, -⟩)
    · exact ⟨upd_s _ _ _, fun z => absurd z (by decide), tn, vn, an, R, vv, MI_12 hM 1, hK, hC⟩
    · exact absurd h1 h2
  · refine ⟨ow', kp_kq hk (by decide) (by decide), Or.inl ⟨_, e, _, fun P T hP => am_begin hP hM, ?_⟩⟩
    rintro b sc2 ar2 (⟨h2, -⟩ | ⟨-, rfl, rfl, rfl⟩)
    · exact absurd h2 h1
    · have h20 := hI.1.2.2
      have han : an < 20 := by
        rcases Nat.lt_or_ge an 20 with z | z
        · exact z
        · exact absurd (Or.inr (by omega)) h1
      have hvn : 0 < vn := Nat.pos_of_ne_zero (fun z => h1 (Or.inl z))
      obtain ⟨m1, m2, m3, m4, m5, m6, m7, m8⟩ := hM
      obtain ⟨s1, s2, s3, s4, s5, s6, s7, s8⟩ := hI
      obtain ⟨z1, z2, z3⟩ := s8 an (Nat.le_refl _) han
      have vn9 : ∀ a, a < an + 1 → va_up vv an (vn - 1) a < vn := fun a ha => by
        by_cases e : a = an
        · subst e; rw [va_up_self]; omega
        · rw [va_up_ne _ _ e]; exact s3 a (by omega)
      refine ⟨(upd_n _ _ (by decide)).trans (upd_s _ _ _), fun _ => rfl, tn, vn, an + 1, R, va_up vv an (vn - 1), ⟨(upd_n _ _ (by decide)).trans ((upd_n _ _ (by decide)).trans m1), m2, (upd_n _ _ (by decide)).trans ((upd_n _ _ (by decide)).trans m3), m4, upd_s _ _ _, by omega, m7, fun a ha => ⟨?_, vn9 a ha⟩⟩, ⟨⟨⟨s1.1, s1.2.1, by omega⟩, s2, vn9, s4, s5, fun a ha j hj => ?_, fun a ha => ?_, fun a h9 h10 => s8 a (by omega) h10⟩, fun a ha h7 f hf hc => ?_⟩, CP_eq hc rfl rfl rfl rfl rfl rfl⟩
      · rw [va_up_self]
        by_cases e : a = an
        · subst e; rw [upd_s, va_up_self]
        · rw [upd_n _ _ e, va_up_ne _ _ e]; exact (m8 a (by omega)).1
      · by_cases e : a = an
        · subst e
          exact fun _ => Or.inl (z3 j hj).1
        · rw [va_up_ne vv _ e]; exact s6 a (by omega) j hj
      · by_cases e : a = an
        · subst e
          refine ⟨fun i _ _ => ?_, fun _ => z2, fun y => ?_⟩
          · show bt (ar 11 a) i = false
            rw [z2, b_0]
          · have y2 : ar 7 a = 3 := y
            rw [z1] at y2
            exact absurd y2 (by decide)
        · exact s7 a (by omega)
      · by_cases e : a = an
        · subst e; exact absurd z1 h7
        · rw [va_up_ne vv _ e] at hc; exact hK.2 a (by omega) h7 f hf hc
theorem pbA_0 {ty : Nat → Int32} {R : Nat → List Int32} {vv : Nat → Nat} {drp : Int32} {j : Nat} : ∀ (m a : Nat) (q : (Nat → Int32) × (Nat → Int32)), q.1 j = 0 → (pbA ty R vv drp a m q).1 j = 0
  | 0, _, _, h => h
  | m + 1, a, q, h => by
    rw [pbA]
    refine pbA_0 m (a + 1) _ ?_
    split
    · rename_i hc
      have e : j ≠ a := fun z => by
        subst z
        rw [h] at hc
        rcases hc with y | y <;> exact absurd y (by decide)
      exact (upd_n _ _ e).trans h
    · exact h
theorem nx_publish (hL : LI ow w tn vn an R vv sc ar fo) : AM G fX7_publish [.ref 0] w (NQ ow w ["java/lang/IllegalStateException"] cd1 (RC G fX8_publish [.ref 12] sc ar)) := by
  obtain ⟨hB, hC, hM, hK⟩ := id hL
  have hI := hK.1
  refine AM_post ?_ (ax_publish hC hI)
  rintro r w' (⟨h1, e, rfl⟩ | ⟨h1, e, ow', hk, hc⟩)
  · refine ⟨ow, kq_rf, Or.inr ⟨_, List.mem_cons_self .., e, _, fun P T hP => am_publish hP hM, ?_⟩⟩
    rintro b sc2 ar2 (⟨-, rfl, rfl⟩ | ⟨h2, -⟩)
    · exact ⟨upd_s _ _ _, fun z => absurd z (by decide), tn, vn, an, R, vv, MI_12 hM 1, hK, hC⟩
    · omega
  · refine ⟨ow', hk, Or.inl ⟨_, e, _, fun P T hP => am_publish hP hM, ?_⟩⟩
    rintro b sc2 ar2 (⟨h2, -⟩ | ⟨-, rfl, h12, hag, hM2, e4, e7, e11⟩)
    · omega
    · obtain ⟨s1, s2, s3, s4, s5, s6, s7, s8⟩ := hI
      have eT : ∀ v, v < vn → ∀ j, j < 6 → tyA ar2 v j = tyA ar v j := fun v hv j hj => by
        unfold tyA pubT at *
        rw [e4]; exact if_neg (by omega)
      have eTn : ∀ j, j < 6 → tyA ar2 vn j = ar 4 j := fun j hj => by
        unfold tyA pubT at *
        rw [e4]; exact (if_pos (by omega)).trans (by rw [show 6 * (vn + 1) + j - 6 * (vn + 1) = j by omega])
      have eR : ∀ v, v < vn → ∀ k, k < 10 → RA (pubR vn (drp9 (ar 4) R) R 10) v k = RA R v k := fun v hv k hk => by
        unfold RA pubR
        rw [if_neg (by omega), if_neg (by omega)]
      have eRn : ∀ k, k < 10 → RA (pubR vn (drp9 (ar 4) R) R 10) vn k = tbR (ar 4) R 10 k := fun k hk => by
        unfold RA pubR
        rw [if_neg (by omega), if_pos (by omega), show 10 * (vn + 1) + k - 10 * (vn + 1) = k by omega, keep_tb hk]
      have e9 : ar2 9 = ar 9 := hag.2 9 (by decide)
      have e10 : ar2 10 = ar 10 := hag.2 10 (by decide)
      have hpk := pbA_ok (ty := ar 4) (R := R) (vv := vv) (drp := drp9 (ar 4) R) (n := an) an 0 (ar 7, ar 11) s7 (by omega)
      refine ⟨h12, fun _ => rfl, tn, vn + 1, an, pubR vn (drp9 (ar 4) R) R 10, vv, hM2, ⟨⟨⟨s1.1, by omega, s1.2.2⟩, fun its hi => (hM2.2.2.2.2.2.2.1 its hi).2, fun a ha => by have := s3 a ha; omega, fun i hi => ?_, fun v hv k hk hn => ?_, fun a ha j hj => ?_, fun a ha => by rw [e7, e11]; exact hpk a ha, fun a h9 h10 => ?_⟩, fun a ha h7 f hf hcp => ?_⟩, CP_eq hc (hag.2 0 (by decide)) e4 e7 e9 e10 e11⟩
      · rw [e4]
        unfold pubT
        split
        · exact s4 _ (by omega)
        · exact s4 _ (by omega)
      · by_cases hvv : v = vn
        · subst hvv
          rw [eRn k hk] at hn ⊢
          have hb : ¬ (k < 10 ∧ brkF (ar 4) (R k) k = true) := fun z => hn (if_pos z)
          have hRk : tbR (ar 4) R 10 k = R k := if_neg hb
          rw [hRk] at hn ⊢
          have hty : tyV (ar 4) (R k) = dueF (ar 4) k := Classical.not_not.mp (fun z => hb ⟨hk, decide_eq_true ⟨hn, z⟩⟩)
          have hok : okL (R k) := by
            rcases s2 k (by omega) with y | y
            · exact absurd y hn
            · exact y.2.1
          rw [tyV_cong hok eTn, hty]
          unfold dueF
          split
          · exact (eTn k (by omega)).symm
          · rfl
        · have hv' : v < vn := by omega
          rw [eR v hv' k hk] at hn ⊢
          have hok : okL (RA R v k) := (SI_wf hK.1 hv' hk hn).2.1
          rw [tyV_cong hok (eT v hv'), s5 v hv' k hk hn]
          unfold dueF
          split
          · exact (eT v hv' k (by omega)).symm
          · rfl
      · rw [eT _ (s3 a ha) j hj, e9]; exact s6 a ha j hj
      · rw [e7, e11, e9, e10]
        obtain ⟨y1, y2⟩ := pbA_hi (ty := ar 4) (R := R) (vv := vv) (drp := drp9 (ar 4) R) (j := a) an 0 (ar 7, ar 11) (by omega)
        have y3 := s8 a h9 h10
        refine ⟨y1.trans y3.1, y2.trans y3.2.1, y3.2.2⟩
      · rw [e10]
        refine hK.2 a ha (fun z => h7 ?_) f hf ?_
        · rw [e7]; exact pbA_0 an 0 _ z
        · have hv' := s3 a ha
          have c1 : canP ar2 (pubR vn (drp9 (ar 4) R) R 10) (vv a) f = canP ar R (vv a) f := by
            show (decide (tyA ar2 (vv a) f ≠ 0) && decide (RA (pubR vn (drp9 (ar 4) R) R 10) (vv a) f = [])) = (decide (tyA ar (vv a) f ≠ 0) && decide (RA R (vv a) f = []))
            rw [eT _ hv' f hf, eR _ hv' f (by omega)]
          rw [← c1]; exact hcp
end NX3
