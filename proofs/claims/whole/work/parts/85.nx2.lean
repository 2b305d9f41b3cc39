/-! ===== each call on answers: the class's end fits the reference's ===== -/
section NX2
variable {G : aw_G} {ow : Nat → Nat} {w : List va_E} {tn vn an : Nat} {R : Nat → List Int32} {vv : Nat → Nat} {sc : Nat → Int32} {ar : Nat → Nat → Int32} {fo : Nat → Int64}
theorem nx_stateOf (hL : LI ow w tn vn an R vv sc ar fo) (x : Int32) : AM G fX7_stateOf [.ref 0, .int x] w (NQ ow w ["java/lang/IndexOutOfBoundsException"] cd1 (RC G fX8_stateOf [.ref 12, .int x] sc ar)) := by
  obtain ⟨hB, hC, hM, hK⟩ := id hL
  have hI := hK.1
  by_cases hb : 0 ≤ x ∧ x ≤ nI an - 1
  · obtain ⟨a, ha, rfl⟩ := inV_nat hI.1.2.2 hb
    refine nx_get hL (ax_stateOf hC hI ha) (fun P T hP => AM_post ?_ (am_stateOf hP hM a ha))
    rintro r w' ⟨b, sc2, ar2, e, rfl, rfl, rfl, rfl⟩
    exact ⟨_, _, _, e, rfl, rfl, upd_s _ _ _, [], ag_rf, by decide, by decide⟩
  · exact nx_bad hL (ax_stateOfX hC hI hb) (List.mem_cons_self ..) rfl (show (1 : Int32) ≠ 0 by decide) (fun P T hP => am_stateOfX hP x (by rw [hM.2.2.2.2.1]; exact hb))
theorem nx_versionOf (hL : LI ow w tn vn an R vv sc ar fo) (x : Int32) : AM G fX7_versionOf [.ref 0, .int x] w (NQ ow w ["java/lang/IndexOutOfBoundsException"] cd1 (RC G fX8_versionOf [.ref 12, .int x] sc ar)) := by
  obtain ⟨hB, hC, hM, hK⟩ := id hL
  have hI := hK.1
  by_cases hb : 0 ≤ x ∧ x ≤ nI an - 1
  · obtain ⟨a, ha, rfl⟩ := inV_nat hI.1.2.2 hb
    refine nx_get hL (ax_versionOf hC hI ha) (fun P T hP => AM_post ?_ (am_versionOf hP hM a ha))
    rintro r w' ⟨b, sc2, ar2, e, rfl, rfl, rfl, rfl⟩
    exact ⟨_, _, _, e, rfl, (hM.2.2.2.2.2.2.2 a ha).1, upd_s _ _ _, [], ag_rf, by decide, by decide⟩
  · exact nx_bad hL (ax_versionOfX hC hI hb) (List.mem_cons_self ..) rfl (show (1 : Int32) ≠ 0 by decide) (fun P T hP => am_versionOfX hP x (by rw [hM.2.2.2.2.1]; exact hb))
theorem nx_doubts (hL : LI ow w tn vn an R vv sc ar fo) (x : Int32) : AM G fX7_doubts [.ref 0, .int x] w (NQ ow w ["java/lang/IndexOutOfBoundsException"] cd1 (RC G fX8_doubts [.ref 12, .int x] sc ar)) := by
  obtain ⟨hB, hC, hM, hK⟩ := id hL
  have hI := hK.1
  by_cases hb : 0 ≤ x ∧ x ≤ nI an - 1
  · obtain ⟨a, ha, rfl⟩ := inV_nat hI.1.2.2 hb
    refine nx_get hL (ax_doubts hC hI ha) (fun P T hP => AM_post ?_ (am_doubts hP hM a ha))
    rintro r w' ⟨b, sc2, ar2, e, rfl, rfl, rfl, rfl⟩
    exact ⟨_, _, _, e, rfl, rfl, upd_s _ _ _, [], ag_rf, by decide, by decide⟩
  · exact nx_bad hL (ax_doubtsX hC hI hb) (List.mem_cons_self ..) rfl (show (1 : Int32) ≠ 0 by decide) (fun P T hP => am_doubtsX hP x (by rw [hM.2.2.2.2.1]; exact hb))
theorem nx_value (hL : LI ow w tn vn an R vv sc ar fo) (x f : Int32) : AM G fX7_value [.ref 0, .int x, .int f] w (NQ ow w ["java/lang/IndexOutOfBoundsException", "java/lang/IllegalStateException"] cdT (RC G fX8_value [.ref 12, .int x, .int f] sc ar)) := by
  obtain ⟨hB, hC, hM, hK⟩ := id hL
  have hI := hK.1
  by_cases hb : (0 ≤ x ∧ x ≤ nI an - 1) ∧ (0 ≤ f ∧ f ≤ 5)
  · obtain ⟨a, ha, rfl⟩ := inV_nat hI.1.2.2 hb.1
    obtain ⟨j, hj, rfl⟩ := inF_nat hb.2
    have h7 := ax_value (G := G) hC hI ha hj
    by_cases hz : ar 10 (6 * a + j) = 0
    · rw [if_pos hz] at h7
      refine nx_bad hL h7 (List.mem_cons_of_mem _ (List.mem_cons_self ..)) rfl (show (2 : Int32) ≠ 0 by decide) (fun P T hP => AM_post ?_ (am_value hP hM a ha j hj))
      rintro r w' ⟨b, sc2, ar2, e, rfl, rfl, ⟨-, rfl⟩ | ⟨h1, -⟩⟩
      · exact ⟨_, _, _, e, rfl, rfl, rfl⟩
      · exact absurd hz h1
    · rw [if_neg hz] at h7
      refine nx_get hL h7 (fun P T hP => AM_post ?_ (am_value hP hM a ha j hj))
      rintro r w' ⟨b, sc2, ar2, e, rfl, rfl, ⟨h1, -⟩ | ⟨-, rfl, rfl⟩⟩
      · exact absurd h1 hz
      · exact ⟨_, _, _, e, rfl, rfl, upd_s _ _ _, [], ag_rf, by decide, by decide⟩
  · exact nx_bad hL (ax_valueX hC hI hb) (List.mem_cons_self ..) rfl (show (1 : Int32) ≠ 0 by decide) (fun P T hP => am_valueX hP x f (by rw [hM.2.2.2.2.1]; exact hb))
theorem nx_refusal (hL : LI ow w tn vn an R vv sc ar fo) (x : Int32) : AM G fX7_refusal [.ref 0, .int x] w (NQ ow w ["java/lang/IndexOutOfBoundsException", "java/lang/IllegalStateException"] cdT (RC G fX8_refusal [.ref 12, .int x] sc ar)) := by
  obtain ⟨hB, hC, hM, hK⟩ := id hL
  have hI := hK.1
  by_cases hb : 0 ≤ x ∧ x ≤ nI an - 1
  · obtain ⟨a, ha, rfl⟩ := inV_nat hI.1.2.2 hb
    refine AM_post ?_ (ax_refusal hC hI ha)
    rintro r w' (⟨h1, e, rfl⟩ | ⟨h1, e, hk⟩)
    · refine ⟨ow, kq_rf, Or.inr ⟨_, List.mem_cons_of_mem _ (List.mem_cons_self ..), e, _, fun P T hP => am_refusal hP hM a ha, ?_⟩⟩
      rintro b sc2 ar2 (⟨h2, rfl, rfl⟩ | ⟨h2, -⟩)
      · exact ⟨upd_s _ _ _, fun z => absurd z (by decide), tn, vn, an, R, vv, MI_12 hM 2, hK, hC⟩
      · exact absurd h1 h2
    · refine ⟨ow, kp_kq hk (by decide) (by decide), Or.inl ⟨_, e, _, fun P T hP => am_refusal hP hM a ha, ?_⟩⟩
      rintro b sc2 ar2 (⟨h2, -⟩ | ⟨h2, hag, rfl⟩)
      · exact absurd h2 h1
      · exact ⟨(hag.1 12 (by decide)).trans (upd_s _ _ _), fun _ => rfl, tn, vn, an, R, vv, MI_ag (MI_12 hM 0) hag (by decide) (by decide), SK_ag hK hag (by decide), CP_ag (CP_r1 hC hk (by simp)) hag (by decide) (by decide)⟩
  · exact nx_bad hL (ax_refusalX hC hI hb) (List.mem_cons_self ..) rfl (show (1 : Int32) ≠ 0 by decide) (fun P T hP => am_refusalX hP x (by rw [hM.2.2.2.2.1]; exact hb))
theorem nx_doubt (hL : LI ow w tn vn an R vv sc ar fo) (x f : Int32) : AM G fX7_doubt [.ref 0, .int x, .int f] w (NQ ow w ["java/lang/IndexOutOfBoundsException", "java/lang/IllegalStateException"] cdT (RC G fX8_doubt [.ref 12, .int x, .int f] sc ar)) := by
  obtain ⟨hB, hC, hM, hK⟩ := id hL
  have hI := hK.1
  by_cases hb : (0 ≤ x ∧ x ≤ nI an - 1) ∧ (0 ≤ f ∧ f ≤ 5)
  · obtain ⟨a, ha, rfl⟩ := inV_nat hI.1.2.2 hb.1
    obtain ⟨j, hj, rfl⟩ := inF_nat hb.2
    refine AM_post ?_ (ax_doubt hC hI ha hj)
    rintro r w' (⟨h1, e, rfl⟩ | ⟨h1, e, hZ⟩)
    · refine ⟨ow, kq_rf, Or.inr ⟨_, List.mem_cons_of_mem _ (List.mem_cons_self ..), e, _, fun P T hP => am_doubt hP hM a ha j hj, ?_⟩⟩
      rintro b sc2 ar2 (⟨h2, rfl, rfl⟩ | ⟨h2, -⟩)
      · exact ⟨upd_s _ _ _, fun z => absurd z (by decide), tn, vn, an, R, vv, MI_12 hM 2, hK, hC⟩
      · exact absurd h2 h1
    · refine ⟨ow, AZ_kq hZ, Or.inl ⟨_, e, _, fun P T hP => am_doubt hP hM a ha j hj, ?_⟩⟩
      rintro b sc2 ar2 (⟨h2, -⟩ | ⟨h2, rfl, rfl, rfl⟩)
      · exact absurd h1 h2
      · have hd := hI.2.2.2.2.2.2.1 a ha
        have hne := or_ne (db := ar 11 a) hj
        rw [if_neg hne] at hZ
        refine ⟨upd_s _ _ _, fun _ => rfl, tn, vn, an, R, vv, MI_12a hM 0 rfl rfl rfl, SK_ans hK ha rfl (fun i hi => hI.2.2.2.2.2.1 a ha i hi) ⟨?_, fun z => ?_, fun _ => ?_⟩ (fun a' h => ⟨upd_n _ _ h, upd_n _ _ h, fun _ _ => ⟨rfl, rfl⟩⟩) (fun _ => hK.2 a ha (by rcases h2.1 with e9 | e9 <;> (rw [e9]; decide))), CP_AZ hC ha hZ rfl rfl (upd_s _ _ _) (upd_s _ _ _) (fun _ _ => rfl) (fun _ _ => rfl) (fun a' h => ⟨upd_n _ _ h, upd_n _ _ h, fun _ _ => ⟨rfl, rfl⟩⟩)⟩
        · show ∀ i, 6 ≤ i → i < 32 → bt (upd (ar 11) a (ar 11 a ||| b1 j) a) i = false
          rw [upd_s]
          exact six_or hj hd.1
        · have z2 : upd (ar 7) a 3 a = 1 := z
          rw [upd_s] at z2
          exact absurd z2 (by decide)
        · show upd (ar 11) a (ar 11 a ||| b1 j) a ≠ 0
          rw [upd_s]
          exact hne
  · exact nx_bad hL (ax_doubtX hC hI hb) (List.mem_cons_self ..) rfl (show (1 : Int32) ≠ 0 by decide) (fun P T hP => am_doubtX hP x f (by rw [hM.2.2.2.2.1]; exact hb))
theorem nx_settle (hL : LI ow w tn vn an R vv sc ar fo) (x f g : Int32) : AM G fX7_settle [.ref 0, .int x, .int f, .int g] w (NQ ow w ["java/lang/IndexOutOfBoundsException", "java/lang/IllegalStateException"] cdT (RC G fX8_settle [.ref 12, .int x, .int f, .int g] sc ar)) := by
  obtain ⟨hB, hC, hM, hK⟩ := id hL
  have hI := hK.1
  by_cases hb : (0 ≤ x ∧ x ≤ nI an - 1) ∧ (0 ≤ f ∧ f ≤ 5)
  · obtain ⟨a, ha, rfl⟩ := inV_nat hI.1.2.2 hb.1
    obtain ⟨j, hj, rfl⟩ := inF_nat hb.2
    have hd := hI.2.2.2.2.2.2.1 a ha
    refine AM_post ?_ (ax_settle hC hI ha hj g)
    rintro r w' (⟨h1, e, rfl⟩ | ⟨h1, ⟨hg, e, hZ⟩ | ⟨hg, e, hZ⟩⟩)
    · refine ⟨ow, kq_rf, Or.inr ⟨_, List.mem_cons_of_mem _ (List.mem_cons_self ..), e, _, fun P T hP => am_settle hP hM a ha j hj g, ?_⟩⟩
      rintro b sc2 ar2 (⟨h2, rfl, rfl⟩ | ⟨h2, -⟩)
      · exact ⟨upd_s _ _ _, fun z => absurd z (by decide), tn, vn, an, R, vv, MI_12 hM 2, hK, hC⟩
      · exact absurd h2 h1
    · refine ⟨ow, AZ_kq hZ, Or.inl ⟨_, e, _, fun P T hP => am_settle hP hM a ha j hj g, ?_⟩⟩
      rintro b sc2 ar2 (⟨h2, -⟩ | ⟨h2, rfl, ⟨-, rfl, rfl⟩ | ⟨h3, -⟩⟩)
      · exact absurd h1 h2
      · refine ⟨upd_s _ _ _, fun _ => rfl, tn, vn, an, R, vv, MI_12a hM 0 rfl rfl rfl, SK_ans hK ha rfl (fun i hi => hI.2.2.2.2.2.1 a ha i hi) ⟨?_, fun z => ?_, fun z => ?_⟩ (fun a' h => ⟨upd_n _ _ h, upd_n _ _ h, fun _ _ => ⟨rfl, rfl⟩⟩) (fun _ => hK.2 a ha (by rw [h2.1]; decide)), CP_AZ hC ha hZ rfl rfl (upd_s _ _ _) (upd_s _ _ _) (fun _ _ => rfl) (fun _ _ => rfl) (fun a' h => ⟨upd_n _ _ h, upd_n _ _ h, fun _ _ => ⟨rfl, rfl⟩⟩)⟩
        · show ∀ i, 6 ≤ i → i < 32 → bt (upd (ar 11) a (ar 11 a &&& (b1 j ^^^ (-1))) a) i = false
          rw [upd_s]
          exact six_and hd.1
        · show upd (ar 11) a (ar 11 a &&& (b1 j ^^^ (-1))) a = 0
          have z2 : upd (ar 7) a (if ar 11 a &&& (b1 j ^^^ (-1)) = 0 then 1 else 3) a = 1 := z
          rw [upd_s] at z2 ⊢
          by_cases hz : ar 11 a &&& (b1 j ^^^ (-1)) = 0
          · exact hz
          · rw [if_neg hz] at z2; exact absurd z2 (by decide)
        · show upd (ar 11) a (ar 11 a &&& (b1 j ^^^ (-1))) a ≠ 0
          have z2 : upd (ar 7) a (if ar 11 a &&& (b1 j ^^^ (-1)) = 0 then 1 else 3) a = 3 := z
          rw [upd_s] at z2 ⊢
          intro hz
          rw [if_pos hz] at z2; exact absurd z2 (by decide)
      · exact absurd h3 hg
    · refine ⟨ow, AZ_kq hZ, Or.inl ⟨_, e, _, fun P T hP => am_settle hP hM a ha j hj g, ?_⟩⟩
      rintro b sc2 ar2 (⟨h2, -⟩ | ⟨h2, rfl, ⟨h3, -⟩ | ⟨-, rfl, rfl⟩⟩)
      · exact absurd h1 h2
      · exact absurd hg h3
      · refine ⟨upd_s _ _ _, fun _ => rfl, tn, vn, an, R, vv, MI_12a hM 0 rfl rfl rfl, SK_ans hK ha rfl (fun i hi => hI.2.2.2.2.2.1 a ha i hi) ⟨hd.1, fun z => ?_, fun z => ?_⟩ (fun a' h => ⟨upd_n _ _ h, rfl, fun _ _ => ⟨rfl, rfl⟩⟩) (fun _ => hK.2 a ha (by rw [h2.1]; decide)), CP_AZ hC ha hZ rfl rfl (upd_s _ _ _) rfl (fun _ _ => rfl) (fun _ _ => rfl) (fun a' h => ⟨upd_n _ _ h, rfl, fun _ _ => ⟨rfl, rfl⟩⟩)⟩
        · have z2 : upd (ar 7) a 4 a = 1 := z
          rw [upd_s] at z2
          exact absurd z2 (by decide)
        · have z2 : upd (ar 7) a 4 a = 3 := z
          rw [upd_s] at z2
          exact absurd z2 (by decide)
  · exact nx_bad hL (ax_settleX hC hI hb) (List.mem_cons_self ..) rfl (show (1 : Int32) ≠ 0 by decide) (fun P T hP => am_settleX hP x f g (by rw [hM.2.2.2.2.1]; exact hb))
theorem nx_put (hL : LI ow w tn vn an R vv sc ar fo) (x f g : Int32) : AM G fX7_put [.ref 0, .int x, .int f, .int g] w (NQ ow w ["java/lang/IndexOutOfBoundsException", "java/lang/IllegalStateException", "java/lang/IllegalArgumentException"] cdP (RC G fX8_put [.ref 12, .int x, .int f, .int g] sc ar)) := by
  obtain ⟨hB, hC, hM, hK⟩ := id hL
  have hI := hK.1
  by_cases hb : (0 ≤ x ∧ x ≤ nI an - 1) ∧ (0 ≤ f ∧ f ≤ 5)
  · obtain ⟨a, ha, rfl⟩ := inV_nat hI.1.2.2 hb.1
    obtain ⟨j, hj, rfl⟩ := inF_nat hb.2
    have hd := hI.2.2.2.2.2.2.1 a ha
    refine AM_post ?_ (ax_put hC hI ha hj g)
    rintro r w' (⟨h1, e, rfl⟩ | ⟨h1, h2, e, rfl⟩ | ⟨h1, h2, e, hZ⟩)
    · refine ⟨ow, kq_rf, Or.inr ⟨_, List.mem_cons_of_mem _ (List.mem_cons_self ..), e, _, fun P T hP => am_put hP hM a ha j hj g, ?_⟩⟩
      rintro b sc2 ar2 (⟨-, rfl, rfl⟩ | ⟨h3, -⟩ | ⟨h3, -⟩)
      · exact ⟨upd_s _ _ _, fun z => absurd z (by decide), tn, vn, an, R, vv, MI_12 hM 2, hK, hC⟩
      · exact absurd h3 h1
      · exact absurd h3 h1
    · refine ⟨ow, kq_rf, Or.inr ⟨_, List.mem_cons_of_mem _ (List.mem_cons_of_mem _ (List.mem_cons_self ..)), e, _, fun P T hP => am_put hP hM a ha j hj g, ?_⟩⟩
      rintro b sc2 ar2 (⟨h3, -⟩ | ⟨-, -, rfl, rfl⟩ | ⟨-, h3, -⟩)
      · exact absurd h1 h3
      · exact ⟨upd_s _ _ _, fun z => absurd z (by decide), tn, vn, an, R, vv, MI_12 hM 3, hK, hC⟩
      · exact absurd h3 h2
    · refine ⟨ow, AZ_kq hZ, Or.inl ⟨_, e, _, fun P T hP => am_put hP hM a ha j hj g, ?_⟩⟩
      rintro b sc2 ar2 (⟨h3, -⟩ | ⟨-, h3, -⟩ | ⟨-, -, rfl, rfl, rfl⟩)
      · exact absurd h1 h3
      · exact absurd h2 h3
      · have hof : ∀ (F : Nat → Int32) (y : Int32) (a' : Nat), a' ≠ a → ∀ i, i < 6 → upd F (6 * a + j) y (6 * a' + i) = F (6 * a' + i) := fun F y a' h i hi => upd_n _ _ (by omega)
        refine ⟨upd_s _ _ _, fun _ => ?_, tn, vn, an, R, vv, MI_12a hM 0 rfl rfl rfl, SK_ans hK ha rfl (fun i hi => ?_) hd (fun a' h => ⟨rfl, rfl, fun i hi => ⟨hof _ _ a' h i hi, hof _ _ a' h i hi⟩⟩) (fun z => absurd h1.1 z), CP_AZ hC ha hZ rfl rfl rfl rfl (fun i hi => ?_) (fun i hi => ?_) (fun a' h => ⟨rfl, rfl, fun i hi => ⟨hof _ _ a' h i hi, hof _ _ a' h i hi⟩⟩)⟩
        · congr 1
          refine cntU_same (fun i hi => ?_)
          show ((decide (tyA ar (vv a) i ≠ 0) && decide (RA R (vv a) i = [])) && decide (upd (fun j => ar 10 (6 * a + j)) j 1 i = 0)) = _
          rw [← congrFun (upd_off (ar 10) a j 1) i]
          rfl
        · show fl01 _ (upd (ar 9) (6 * a + j) g (6 * a + i))
          rw [congrFun (upd_off (ar 9) a j g) i]
          exact upd_fl (hI.2.2.2.2.2.1 a ha) hj (fl_right h2) i hi
        · exact (congrFun (upd_off (ar 9) a j g) i).symm
        · exact (congrFun (upd_off (ar 10) a j 1) i).symm
  · exact nx_bad hL (ax_putX hC hI hb) (List.mem_cons_self ..) rfl (show (1 : Int32) ≠ 0 by decide) (fun P T hP => am_putX hP x f g (by rw [hM.2.2.2.2.1]; exact hb))
end NX2
