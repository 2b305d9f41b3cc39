/-! ===== the class: its calls on answers and versions ===== -/
/-- what holds of the reference's state in every run -/
def SI (tn vn an : Nat) (R : Nat → List Int32) (vv : Nat → Nat) (ar : Nat → Nat → Int32) : Prop :=
  (tn ≤ 40 ∧ vn ≤ 10 ∧ an ≤ 20) ∧ (∀ its, its < 110 → R its = [] ∨ wfr (R its)) ∧ (∀ a, a < an → vv a < vn) ∧
  (∀ i, i < 6 * (vn + 1) → ar 4 i = 0 ∨ ar 4 i = 1 ∨ ar 4 i = 2 ∨ ar 4 i = 3) ∧
  (∀ v, v < vn → ∀ k, k < 10 → RA R v k ≠ [] → tyV (tyA ar v) (RA R v k) = dueF (tyA ar v) k) ∧
  (∀ a, a < an → ∀ j, j < 6 → fl01 (tyA ar (vv a) j) (ar 9 (6 * a + j))) ∧
  (∀ a, a < an → (∀ i, 6 ≤ i → i < 32 → bt (ar 11 a) i = false) ∧ (ar 7 a = 1 → ar 11 a = 0) ∧ (ar 7 a = 3 → ar 11 a ≠ 0)) ∧
  ∀ a, an ≤ a → a < 20 → ar 7 a = 0 ∧ ar 11 a = 0 ∧ ∀ j, j < 6 → ar 9 (6 * a + j) = 0 ∧ ar 10 (6 * a + j) = 0
def AZ (ow : Nat → Nat) (w w' : List va_E) (vv : Nat → Nat) (a : Nat) (st db : Int32) (vl hs : Nat → Int32) : Prop := ∃ b fa, ABq w a b ∧ PBq w (vv a) fa ∧ kp ow ow [1, 10 + a] w w' ∧ AN ow w' (10 + a) b (vv a) fa st db vl hs
theorem AZ_of {ow : Nat → Nat} {w w' : List va_E} {vv : Nat → Nat} {a b fa : Nat} {st db : Int32} {vl hs : Nat → Int32} {ts : List Nat} (h1 : ABq w a b) (h2 : PBq w (vv a) fa) (h3 : kp ow ow ts w w') (hs9 : ∀ t ∈ ts, t ∈ [1, 10 + a]) (h4 : AN ow w' (10 + a) b (vv a) fa st db vl hs) : AZ ow w w' vv a st db vl hs := ⟨b, fa, h1, h2, kp_mono h3 hs9, h4⟩
theorem ty_ne1 {tn vn an : Nat} {R : Nat → List Int32} {vv : Nat → Nat} {ar : Nat → Nat → Int32} (hI : SI tn vn an R vv ar) {v : Nat} (hv : v < vn) {j : Nat} (hj : j < 6) : tyA ar v j = 0 ∨ tyA ar v j = 1 ∨ tyA ar v j = 2 ∨ tyA ar v j = 3 := hI.2.2.2.1 _ (by omega)
theorem due_ne {tn vn an : Nat} {R : Nat → List Int32} {vv : Nat → Nat} {ar : Nat → Nat → Int32} (hI : SI tn vn an R vv ar) {v : Nat} (hv : v < vn) : ∀ k, k < 10 → RA R v k ≠ [] → tyV (tyA ar v) (RA R v k) ≠ -1 := by
  intro k hk hn
  rw [hI.2.2.2.2.1 v hv k hk hn]
  unfold dueF
  split
  · rcases ty_ne1 hI hv (j := k) (by omega) with e | e | e | e <;> (rw [e]; decide)
  · decide
theorem SI_wf {tn vn an : Nat} {R : Nat → List Int32} {vv : Nat → Nat} {ar : Nat → Nat → Int32} (hI : SI tn vn an R vv ar) {v : Nat} (hv : v < vn) {k : Nat} (hk : k < 10) (hn : RA R v k ≠ []) : wfr (RA R v k) := by
  have := hI.1.2.1
  rcases hI.2.1 (10 * (v + 1) + k) (by omega) with e | e
  · exact absurd e hn
  · exact e
theorem n0a {a : Nat} : 0 ∉ [10 + a] := fun z => by have := List.mem_singleton.mp z; omega
theorem FO_get {ow : Nat → Nat} {w : List va_E} {o : Option Nat} {row : List Int32} (h : FO ow w o row) (hn : row ≠ []) : ∃ a, o = some a := by
  cases o with
  | none => exact absurd h hn
  | some a => exact ⟨a, rfl⟩
theorem fl_right {t x : Int32} (h : rightP t x = true) : fl01 t x := by
  intro e
  subst e
  have h2 : (0 : Int32) ≤ x ∧ x ≤ 1 := of_decide_eq_true h
  obtain ⟨i, hi, e⟩ := nI_of2 (x := x) (M := 1) (n := 1) (by decide) (Int32.not_lt.mpr h2.1) h2.2
  rcases (show i = 0 ∨ i = 1 by omega) with y | y
  · exact Or.inl (by rw [e, y]; rfl)
  · exact Or.inr (by rw [e, y]; rfl)
section S28
set_option maxRecDepth 100000 in
set_option maxHeartbeats 4000000 in
theorem ax_stateOfX {G : aw_G} {ow : Nat → Nat} {w : List va_E} {tn vn an : Nat} {R : Nat → List Int32} {vv : Nat → Nat} {ar : Nat → Nat → Int32} (hC : CP ow w tn vn an R vv ar) (hI : SI tn vn an R vv ar) {x : Int32} (hb : ¬ (0 ≤ x ∧ x ≤ nI an - 1)) : AM G fX7_stateOf [.ref 0, .int x] w (qx (.inr "java/lang/IndexOutOfBoundsException") w) := by
  refine AM_of (by decide) rfl rfl (Nat.le_of_ble_eq_true rfl) ?_
  show AW G fX7_stateOf 1 6 w 0 [some (.ref 0), some (.int x)] [] _
  obtain ⟨⟨hi1, hi2, hi3⟩, hiR, hiV, hiT, hiF, hiL, hiD, hiN⟩ := id hI
  obtain ⟨⟨tx, p9, k9, l9, lt9, st9, pn9, hS, hch, htx⟩, -, -, -, -, -⟩ := id hC
  have h00 := hS.1.2
  
  refine r_aload_n (pc := 0) dX7_stateOf_0 rfl rfl ?_
  refine r_iload_n (pc := 1) dX7_stateOf_1 rfl rfl ?_
  refine s_X7_154 (pc := 2) (kc' := 0) (ks' := 0) rfl rfl (ax_requireAnswerX h00 hi3 hb) h00 (Nat.le_of_ble_eq_true rfl) (Nat.le_of_ble_eq_true rfl) (Nat.le_of_ble_eq_true rfl) (Nat.le_of_ble_eq_true rfl) (by exact (Nat.le_of_ble_eq_true rfl)) rfl (List.forall_mem_cons.mpr ⟨rfl, (List.forall_mem_cons.mpr ⟨rfl, fun _ h => nomatch h⟩)⟩) rfl dX7_stateOf_2 (aw_tX ⟨rfl, rfl⟩) aw_kX

set_option maxRecDepth 100000 in
set_option maxHeartbeats 4000000 in
theorem ax_versionOfX {G : aw_G} {ow : Nat → Nat} {w : List va_E} {tn vn an : Nat} {R : Nat → List Int32} {vv : Nat → Nat} {ar : Nat → Nat → Int32} (hC : CP ow w tn vn an R vv ar) (hI : SI tn vn an R vv ar) {x : Int32} (hb : ¬ (0 ≤ x ∧ x ≤ nI an - 1)) : AM G fX7_versionOf [.ref 0, .int x] w (qx (.inr "java/lang/IndexOutOfBoundsException") w) := by
  refine AM_of (by decide) rfl rfl (Nat.le_of_ble_eq_true rfl) ?_
  show AW G fX7_versionOf 1 6 w 0 [some (.ref 0), some (.int x)] [] _
  obtain ⟨⟨hi1, hi2, hi3⟩, hiR, hiV, hiT, hiF, hiL, hiD, hiN⟩ := id hI
  obtain ⟨⟨tx, p9, k9, l9, lt9, st9, pn9, hS, hch, htx⟩, -, -, -, -, -⟩ := id hC
  have h00 := hS.1.2
  
  refine r_aload_n (pc := 0) dX7_versionOf_0 rfl rfl ?_
  refine r_iload_n (pc := 1) dX7_versionOf_1 rfl rfl ?_
  refine s_X7_154 (pc := 2) (kc' := 0) (ks' := 0) rfl rfl (ax_requireAnswerX h00 hi3 hb) h00 (Nat.le_of_ble_eq_true rfl) (Nat.le_of_ble_eq_true rfl) (Nat.le_of_ble_eq_true rfl) (Nat.le_of_ble_eq_true rfl) (by exact (Nat.le_of_ble_eq_true rfl)) rfl (List.forall_mem_cons.mpr ⟨rfl, (List.forall_mem_cons.mpr ⟨rfl, fun _ h => nomatch h⟩)⟩) rfl dX7_versionOf_2 (aw_tX ⟨rfl, rfl⟩) aw_kX

set_option maxRecDepth 100000 in
set_option maxHeartbeats 4000000 in
theorem ax_refusalX {G : aw_G} {ow : Nat → Nat} {w : List va_E} {tn vn an : Nat} {R : Nat → List Int32} {vv : Nat → Nat} {ar : Nat → Nat → Int32} (hC : CP ow w tn vn an R vv ar) (hI : SI tn vn an R vv ar) {x : Int32} (hb : ¬ (0 ≤ x ∧ x ≤ nI an - 1)) : AM G fX7_refusal [.ref 0, .int x] w (qx (.inr "java/lang/IndexOutOfBoundsException") w) := by
  refine AM_of (by decide) rfl rfl (Nat.le_of_ble_eq_true rfl) ?_
  show AW G fX7_refusal 2 12 w 0 [some (.ref 0), some (.int x), none] [] _
  obtain ⟨⟨hi1, hi2, hi3⟩, hiR, hiV, hiT, hiF, hiL, hiD, hiN⟩ := id hI
  obtain ⟨⟨tx, p9, k9, l9, lt9, st9, pn9, hS, hch, htx⟩, -, -, -, -, -⟩ := id hC
  have h00 := hS.1.2
  
  refine r_aload_n (pc := 0) dX7_refusal_0 rfl rfl ?_
  refine r_iload_n (pc := 1) dX7_refusal_1 rfl rfl ?_
  refine s_X7_154 (pc := 2) (kc' := 1) (ks' := 6) rfl rfl (ax_requireAnswerX h00 hi3 hb) h00 (Nat.le_of_ble_eq_true rfl) (Nat.le_of_ble_eq_true rfl) (Nat.le_of_ble_eq_true rfl) (Nat.le_of_ble_eq_true rfl) (by exact (Nat.le_of_ble_eq_true rfl)) rfl (List.forall_mem_cons.mpr ⟨rfl, (List.forall_mem_cons.mpr ⟨rfl, fun _ h => nomatch h⟩)⟩) rfl dX7_refusal_2 (aw_tX ⟨rfl, rfl⟩) aw_kX

set_option maxRecDepth 100000 in
set_option maxHeartbeats 4000000 in
theorem ax_doubtsX {G : aw_G} {ow : Nat → Nat} {w : List va_E} {tn vn an : Nat} {R : Nat → List Int32} {vv : Nat → Nat} {ar : Nat → Nat → Int32} (hC : CP ow w tn vn an R vv ar) (hI : SI tn vn an R vv ar) {x : Int32} (hb : ¬ (0 ≤ x ∧ x ≤ nI an - 1)) : AM G fX7_doubts [.ref 0, .int x] w (qx (.inr "java/lang/IndexOutOfBoundsException") w) := by
  refine AM_of (by decide) rfl rfl (Nat.le_of_ble_eq_true rfl) ?_
  show AW G fX7_doubts 1 6 w 0 [some (.ref 0), some (.int x)] [] _
  obtain ⟨⟨hi1, hi2, hi3⟩, hiR, hiV, hiT, hiF, hiL, hiD, hiN⟩ := id hI
  obtain ⟨⟨tx, p9, k9, l9, lt9, st9, pn9, hS, hch, htx⟩, -, -, -, -, -⟩ := id hC
  have h00 := hS.1.2
  
  refine r_aload_n (pc := 0) dX7_doubts_0 rfl rfl ?_
  refine r_iload_n (pc := 1) dX7_doubts_1 rfl rfl ?_
  refine s_X7_154 (pc := 2) (kc' := 0) (ks' := 0) rfl rfl (ax_requireAnswerX h00 hi3 hb) h00 (Nat.le_of_ble_eq_true rfl) (Nat.le_of_ble_eq_true rfl) (Nat.le_of_ble_eq_true rfl) (Nat.le_of_ble_eq_true rfl) (by exact (Nat.le_of_ble_eq_true rfl)) rfl (List.forall_mem_cons.mpr ⟨rfl, (List.forall_mem_cons.mpr ⟨rfl, fun _ h => nomatch h⟩)⟩) rfl dX7_doubts_2 (aw_tX ⟨rfl, rfl⟩) aw_kX

set_option maxRecDepth 100000 in
set_option maxHeartbeats 4000000 in
theorem ax_handInX {G : aw_G} {ow : Nat → Nat} {w : List va_E} {tn vn an : Nat} {R : Nat → List Int32} {vv : Nat → Nat} {ar : Nat → Nat → Int32} (hC : CP ow w tn vn an R vv ar) (hI : SI tn vn an R vv ar) {x : Int32} (hb : ¬ (0 ≤ x ∧ x ≤ nI an - 1)) : AM G fX7_handIn [.ref 0, .int x] w (qx (.inr "java/lang/IndexOutOfBoundsException") w) := by
  refine AM_of (by decide) rfl rfl (Nat.le_of_ble_eq_true rfl) ?_
  show AW G fX7_handIn 2 12 w 0 [some (.ref 0), some (.int x), none] [] _
  obtain ⟨⟨hi1, hi2, hi3⟩, hiR, hiV, hiT, hiF, hiL, hiD, hiN⟩ := id hI
  obtain ⟨⟨tx, p9, k9, l9, lt9, st9, pn9, hS, hch, htx⟩, -, -, -, -, -⟩ := id hC
  have h00 := hS.1.2
  
  refine r_aload_n (pc := 0) dX7_handIn_0 rfl rfl ?_
  refine r_iload_n (pc := 1) dX7_handIn_1 rfl rfl ?_
  refine s_X7_154 (pc := 2) (kc' := 1) (ks' := 6) rfl rfl (ax_requireAnswerX h00 hi3 hb) h00 (Nat.le_of_ble_eq_true rfl) (Nat.le_of_ble_eq_true rfl) (Nat.le_of_ble_eq_true rfl) (Nat.le_of_ble_eq_true rfl) (by exact (Nat.le_of_ble_eq_true rfl)) rfl (List.forall_mem_cons.mpr ⟨rfl, (List.forall_mem_cons.mpr ⟨rfl, fun _ h => nomatch h⟩)⟩) rfl dX7_handIn_2 (aw_tX ⟨rfl, rfl⟩) aw_kX

set_option maxRecDepth 100000 in
set_option maxHeartbeats 4000000 in
theorem ax_valueX {G : aw_G} {ow : Nat → Nat} {w : List va_E} {tn vn an : Nat} {R : Nat → List Int32} {vv : Nat → Nat} {ar : Nat → Nat → Int32} (hC : CP ow w tn vn an R vv ar) (hI : SI tn vn an R vv ar) {x f : Int32} (hb : ¬ ((0 ≤ x ∧ x ≤ nI an - 1) ∧ (0 ≤ f ∧ f ≤ 5))) : AM G fX7_value [.ref 0, .int x, .int f] w (qx (.inr "java/lang/IndexOutOfBoundsException") w) := by
  refine AM_of (by decide) rfl rfl (Nat.le_of_ble_eq_true rfl) ?_
  show AW G fX7_value 3 18 w 0 [some (.ref 0), some (.int x), some (.int f), none] [] _
  obtain ⟨⟨hi1, hi2, hi3⟩, hiR, hiV, hiT, hiF, hiL, hiD, hiN⟩ := id hI
  obtain ⟨⟨tx, p9, k9, l9, lt9, st9, pn9, hS, hch, htx⟩, -, -, -, -, -⟩ := id hC
  have h00 := hS.1.2
  
  refine r_aload_n (pc := 0) dX7_value_0 rfl rfl ?_
  refine r_iload_n (pc := 1) dX7_value_1 rfl rfl ?_
  by_cases hx : 0 ≤ x ∧ x ≤ nI an - 1
  · obtain ⟨a, ha, rfl⟩ := inV_nat (by omega) hx
    obtain ⟨b, fa, hq, -, -⟩ := (hC.2.2.2.2.2 a ha)
    refine s_X7_154 (pc := 2) (kc' := 2) (ks' := 12) rfl rfl (ax_requireAnswer h00 hi3 ha hq) h00 (Nat.le_of_ble_eq_true rfl) (Nat.le_of_ble_eq_true rfl) (Nat.le_of_ble_eq_true rfl) (Nat.le_of_ble_eq_true rfl) (by exact (Nat.le_of_ble_eq_true rfl)) rfl (List.forall_mem_cons.mpr ⟨rfl, (List.forall_mem_cons.mpr ⟨rfl, fun _ h => nomatch h⟩)⟩) rfl dX7_value_2 aw_kt (aw_kq ?_)
    refine r_astore_n (pc := 5) dX7_value_5 rfl (Nat.le_of_ble_eq_true rfl) rfl ?_
    refine r_iload_n (pc := 6) dX7_value_6 rfl rfl ?_
    refine s_X7_71 (pc := 7) (kc' := 1) (ks' := 6) rfl rfl (ac_requireFieldX (fun z => hb ⟨hx, z⟩))  (Nat.le_of_ble_eq_true rfl) (Nat.le_of_ble_eq_true rfl) (Nat.le_of_ble_eq_true rfl) (Nat.le_of_ble_eq_true rfl) (by exact (Nat.le_of_ble_eq_true rfl)) rfl (List.forall_mem_cons.mpr ⟨rfl, fun _ h => nomatch h⟩) rfl dX7_value_7 (aw_tX ⟨rfl, rfl⟩) aw_kX
  · refine s_X7_154 (pc := 2) (kc' := 2) (ks' := 12) rfl rfl (ax_requireAnswerX h00 hi3 hx) h00 (Nat.le_of_ble_eq_true rfl) (Nat.le_of_ble_eq_true rfl) (Nat.le_of_ble_eq_true rfl) (Nat.le_of_ble_eq_true rfl) (by exact (Nat.le_of_ble_eq_true rfl)) rfl (List.forall_mem_cons.mpr ⟨rfl, (List.forall_mem_cons.mpr ⟨rfl, fun _ h => nomatch h⟩)⟩) rfl dX7_value_2 (aw_tX ⟨rfl, rfl⟩) aw_kX

set_option maxRecDepth 100000 in
set_option maxHeartbeats 4000000 in
theorem ax_doubtX {G : aw_G} {ow : Nat → Nat} {w : List va_E} {tn vn an : Nat} {R : Nat → List Int32} {vv : Nat → Nat} {ar : Nat → Nat → Int32} (hC : CP ow w tn vn an R vv ar) (hI : SI tn vn an R vv ar) {x f : Int32} (hb : ¬ ((0 ≤ x ∧ x ≤ nI an - 1) ∧ (0 ≤ f ∧ f ≤ 5))) : AM G fX7_doubt [.ref 0, .int x, .int f] w (qx (.inr "java/lang/IndexOutOfBoundsException") w) := by
  refine AM_of (by decide) rfl rfl (Nat.le_of_ble_eq_true rfl) ?_
  show AW G fX7_doubt 3 18 w 0 [some (.ref 0), some (.int x), some (.int f), none, none] [] _
  obtain ⟨⟨hi1, hi2, hi3⟩, hiR, hiV, hiT, hiF, hiL, hiD, hiN⟩ := id hI
  obtain ⟨⟨tx, p9, k9, l9, lt9, st9, pn9, hS, hch, htx⟩, -, -, -, -, -⟩ := id hC
  have h00 := hS.1.2
  
  refine r_aload_n (pc := 0) dX7_doubt_0 rfl rfl ?_
  refine r_iload_n (pc := 1) dX7_doubt_1 rfl rfl ?_
  by_cases hx : 0 ≤ x ∧ x ≤ nI an - 1
  · obtain ⟨a, ha, rfl⟩ := inV_nat (by omega) hx
    obtain ⟨b, fa, hq, -, -⟩ := (hC.2.2.2.2.2 a ha)
    refine s_X7_154 (pc := 2) (kc' := 2) (ks' := 12) rfl rfl (ax_requireAnswer h00 hi3 ha hq) h00 (Nat.le_of_ble_eq_true rfl) (Nat.le_of_ble_eq_true rfl) (Nat.le_of_ble_eq_true rfl) (Nat.le_of_ble_eq_true rfl) (by exact (Nat.le_of_ble_eq_true rfl)) rfl (List.forall_mem_cons.mpr ⟨rfl, (List.forall_mem_cons.mpr ⟨rfl, fun _ h => nomatch h⟩)⟩) rfl dX7_doubt_2 aw_kt (aw_kq ?_)
    refine r_astore_n (pc := 5) dX7_doubt_5 rfl (Nat.le_of_ble_eq_true rfl) rfl ?_
    refine r_iload_n (pc := 6) dX7_doubt_6 rfl rfl ?_
    refine s_X7_71 (pc := 7) (kc' := 1) (ks' := 6) rfl rfl (ac_requireFieldX (fun z => hb ⟨hx, z⟩))  (Nat.le_of_ble_eq_true rfl) (Nat.le_of_ble_eq_true rfl) (Nat.le_of_ble_eq_true rfl) (Nat.le_of_ble_eq_true rfl) (by exact (Nat.le_of_ble_eq_true rfl)) rfl (List.forall_mem_cons.mpr ⟨rfl, fun _ h => nomatch h⟩) rfl dX7_doubt_7 (aw_tX ⟨rfl, rfl⟩) aw_kX
  · refine s_X7_154 (pc := 2) (kc' := 2) (ks' := 12) rfl rfl (ax_requireAnswerX h00 hi3 hx) h00 (Nat.le_of_ble_eq_true rfl) (Nat.le_of_ble_eq_true rfl) (Nat.le_of_ble_eq_true rfl) (Nat.le_of_ble_eq_true rfl) (by exact (Nat.le_of_ble_eq_true rfl)) rfl (List.forall_mem_cons.mpr ⟨rfl, (List.forall_mem_cons.mpr ⟨rfl, fun _ h => nomatch h⟩)⟩) rfl dX7_doubt_2 (aw_tX ⟨rfl, rfl⟩) aw_kX

set_option maxRecDepth 100000 in
set_option maxHeartbeats 4000000 in
theorem ax_settleX {G : aw_G} {ow : Nat → Nat} {w : List va_E} {tn vn an : Nat} {R : Nat → List Int32} {vv : Nat → Nat} {ar : Nat → Nat → Int32} (hC : CP ow w tn vn an R vv ar) (hI : SI tn vn an R vv ar) {x f g : Int32} (hb : ¬ ((0 ≤ x ∧ x ≤ nI an - 1) ∧ (0 ≤ f ∧ f ≤ 5))) : AM G fX7_settle [.ref 0, .int x, .int f, .int g] w (qx (.inr "java/lang/IndexOutOfBoundsException") w) := by
  refine AM_of (by decide) rfl rfl (Nat.le_of_ble_eq_true rfl) ?_
  show AW G fX7_settle 3 18 w 0 [some (.ref 0), some (.int x), some (.int f), some (.int g), none] [] _
  obtain ⟨⟨hi1, hi2, hi3⟩, hiR, hiV, hiT, hiF, hiL, hiD, hiN⟩ := id hI
  obtain ⟨⟨tx, p9, k9, l9, lt9, st9, pn9, hS, hch, htx⟩, -, -, -, -, -⟩ := id hC
  have h00 := hS.1.2
  
  refine r_aload_n (pc := 0) dX7_settle_0 rfl rfl ?_
  refine r_iload_n (pc := 1) dX7_settle_1 rfl rfl ?_
  by_cases hx : 0 ≤ x ∧ x ≤ nI an - 1
  · obtain ⟨a, ha, rfl⟩ := inV_nat (by omega) hx
    obtain ⟨b, fa, hq, -, -⟩ := (hC.2.2.2.2.2 a ha)
    refine s_X7_154 (pc := 2) (kc' := 2) (ks' := 12) rfl rfl (ax_requireAnswer h00 hi3 ha hq) h00 (Nat.le_of_ble_eq_true rfl) (Nat.le_of_ble_eq_true rfl) (Nat.le_of_ble_eq_true rfl) (Nat.le_of_ble_eq_true rfl) (by exact (Nat.le_of_ble_eq_true rfl)) rfl (List.forall_mem_cons.mpr ⟨rfl, (List.forall_mem_cons.mpr ⟨rfl, fun _ h => nomatch h⟩)⟩) rfl dX7_settle_2 aw_kt (aw_kq ?_)
    refine r_astore (pc := 5) dX7_settle_5 (Nat.le_of_ble_eq_true rfl) rfl ?_
    refine r_iload_n (pc := 7) dX7_settle_7 rfl rfl ?_
    refine s_X7_71 (pc := 8) (kc' := 1) (ks' := 6) rfl rfl (ac_requireFieldX (fun z => hb ⟨hx, z⟩))  (Nat.le_of_ble_eq_true rfl) (Nat.le_of_ble_eq_true rfl) (Nat.le_of_ble_eq_true rfl) (Nat.le_of_ble_eq_true rfl) (by exact (Nat.le_of_ble_eq_true rfl)) rfl (List.forall_mem_cons.mpr ⟨rfl, fun _ h => nomatch h⟩) rfl dX7_settle_8 (aw_tX ⟨rfl, rfl⟩) aw_kX
  · refine s_X7_154 (pc := 2) (kc' := 2) (ks' := 12) rfl rfl (ax_requireAnswerX h00 hi3 hx) h00 (Nat.le_of_ble_eq_true rfl) (Nat.le_of_ble_eq_true rfl) (Nat.le_of_ble_eq_true rfl) (Nat.le_of_ble_eq_true rfl) (by exact (Nat.le_of_ble_eq_true rfl)) rfl (List.forall_mem_cons.mpr ⟨rfl, (List.forall_mem_cons.mpr ⟨rfl, fun _ h => nomatch h⟩)⟩) rfl dX7_settle_2 (aw_tX ⟨rfl, rfl⟩) aw_kX

set_option maxRecDepth 100000 in
set_option maxHeartbeats 4000000 in
theorem ax_putX {G : aw_G} {ow : Nat → Nat} {w : List va_E} {tn vn an : Nat} {R : Nat → List Int32} {vv : Nat → Nat} {ar : Nat → Nat → Int32} (hC : CP ow w tn vn an R vv ar) (hI : SI tn vn an R vv ar) {x f g : Int32} (hb : ¬ ((0 ≤ x ∧ x ≤ nI an - 1) ∧ (0 ≤ f ∧ f ≤ 5))) : AM G fX7_put [.ref 0, .int x, .int f, .int g] w (qx (.inr "java/lang/IndexOutOfBoundsException") w) := by
  refine AM_of (by decide) rfl rfl (Nat.le_of_ble_eq_true rfl) ?_
  show AW G fX7_put 4 24 w 0 [some (.ref 0), some (.int x), some (.int f), some (.int g), none] [] _
  obtain ⟨⟨hi1, hi2, hi3⟩, hiR, hiV, hiT, hiF, hiL, hiD, hiN⟩ := id hI
  obtain ⟨⟨tx, p9, k9, l9, lt9, st9, pn9, hS, hch, htx⟩, -, -, -, -, -⟩ := id hC
  have h00 := hS.1.2
  
  refine r_aload_n (pc := 0) dX7_put_0 rfl rfl ?_
  refine r_iload_n (pc := 1) dX7_put_1 rfl rfl ?_
  by_cases hx : 0 ≤ x ∧ x ≤ nI an - 1
  · obtain ⟨a, ha, rfl⟩ := inV_nat (by omega) hx
    obtain ⟨b, fa, hq, -, -⟩ := (hC.2.2.2.2.2 a ha)
    refine s_X7_154 (pc := 2) (kc' := 3) (ks' := 18) rfl rfl (ax_requireAnswer h00 hi3 ha hq) h00 (Nat.le_of_ble_eq_true rfl) (Nat.le_of_ble_eq_true rfl) (Nat.le_of_ble_eq_true rfl) (Nat.le_of_ble_eq_true rfl) (by exact (Nat.le_of_ble_eq_true rfl)) rfl (List.forall_mem_cons.mpr ⟨rfl, (List.forall_mem_cons.mpr ⟨rfl, fun _ h => nomatch h⟩)⟩) rfl dX7_put_2 aw_kt (aw_kq ?_)
    refine r_astore (pc := 5) dX7_put_5 (Nat.le_of_ble_eq_true rfl) rfl ?_
    refine r_iload_n (pc := 7) dX7_put_7 rfl rfl ?_
    refine s_X7_71 (pc := 8) (kc' := 2) (ks' := 12) rfl rfl (ac_requireFieldX (fun z => hb ⟨hx, z⟩))  (Nat.le_of_ble_eq_true rfl) (Nat.le_of_ble_eq_true rfl) (Nat.le_of_ble_eq_true rfl) (Nat.le_of_ble_eq_true rfl) (by exact (Nat.le_of_ble_eq_true rfl)) rfl (List.forall_mem_cons.mpr ⟨rfl, fun _ h => nomatch h⟩) rfl dX7_put_8 (aw_tX ⟨rfl, rfl⟩) aw_kX
  · refine s_X7_154 (pc := 2) (kc' := 3) (ks' := 18) rfl rfl (ax_requireAnswerX h00 hi3 hx) h00 (Nat.le_of_ble_eq_true rfl) (Nat.le_of_ble_eq_true rfl) (Nat.le_of_ble_eq_true rfl) (Nat.le_of_ble_eq_true rfl) (by exact (Nat.le_of_ble_eq_true rfl)) rfl (List.forall_mem_cons.mpr ⟨rfl, (List.forall_mem_cons.mpr ⟨rfl, fun _ h => nomatch h⟩)⟩) rfl dX7_put_2 (aw_tX ⟨rfl, rfl⟩) aw_kX

set_option maxRecDepth 100000 in
set_option maxHeartbeats 4000000 in
theorem ax_amendX {G : aw_G} {ow : Nat → Nat} {w : List va_E} {tn vn an : Nat} {R : Nat → List Int32} {vv : Nat → Nat} {ar : Nat → Nat → Int32} (hC : CP ow w tn vn an R vv ar) (hI : SI tn vn an R vv ar) {x f g : Int32} (hb : ¬ ((0 ≤ x ∧ x ≤ nI an - 1) ∧ (0 ≤ f ∧ f ≤ 5))) : AM G fX7_amend [.ref 0, .int x, .int f, .int g] w (qx (.inr "java/lang/IndexOutOfBoundsException") w) := by
  refine AM_of (by decide) rfl rfl (Nat.le_of_ble_eq_true rfl) ?_
  show AW G fX7_amend 4 24 w 0 [some (.ref 0), some (.int x), some (.int f), some (.int g), none] [] _
  obtain ⟨⟨hi1, hi2, hi3⟩, hiR, hiV, hiT, hiF, hiL, hiD, hiN⟩ := id hI
  obtain ⟨⟨tx, p9, k9, l9, lt9, st9, pn9, hS, hch, htx⟩, -, -, -, -, -⟩ := id hC
  have h00 := hS.1.2
  
  refine r_aload_n (pc := 0) dX7_amend_0 rfl rfl ?_
  refine r_iload_n (pc := 1) dX7_amend_1 rfl rfl ?_
  by_cases hx : 0 ≤ x ∧ x ≤ nI an - 1
  · obtain ⟨a, ha, rfl⟩ := inV_nat (by omega) hx
    obtain ⟨b, fa, hq, -, -⟩ := (hC.2.2.2.2.2 a ha)
    refine s_X7_154 (pc := 2) (kc' := 3) (ks' := 18) rfl rfl (ax_requireAnswer h00 hi3 ha hq) h00 (Nat.le_of_ble_eq_true rfl) (Nat.le_of_ble_eq_true rfl) (Nat.le_of_ble_eq_true rfl) (Nat.le_of_ble_eq_true rfl) (by exact (Nat.le_of_ble_eq_true rfl)) rfl (List.forall_mem_cons.mpr ⟨rfl, (List.forall_mem_cons.mpr ⟨rfl, fun _ h => nomatch h⟩)⟩) rfl dX7_amend_2 aw_kt (aw_kq ?_)
    refine r_astore (pc := 5) dX7_amend_5 (Nat.le_of_ble_eq_true rfl) rfl ?_
    refine r_iload_n (pc := 7) dX7_amend_7 rfl rfl ?_
    refine s_X7_71 (pc := 8) (kc' := 2) (ks' := 12) rfl rfl (ac_requireFieldX (fun z => hb ⟨hx, z⟩))  (Nat.le_of_ble_eq_true rfl) (Nat.le_of_ble_eq_true rfl) (Nat.le_of_ble_eq_true rfl) (Nat.le_of_ble_eq_true rfl) (by exact (Nat.le_of_ble_eq_true rfl)) rfl (List.forall_mem_cons.mpr ⟨rfl, fun _ h => nomatch h⟩) rfl dX7_amend_8 (aw_tX ⟨rfl, rfl⟩) aw_kX
  · refine s_X7_154 (pc := 2) (kc' := 3) (ks' := 18) rfl rfl (ax_requireAnswerX h00 hi3 hx) h00 (Nat.le_of_ble_eq_true rfl) (Nat.le_of_ble_eq_true rfl) (Nat.le_of_ble_eq_true rfl) (Nat.le_of_ble_eq_true rfl) (by exact (Nat.le_of_ble_eq_true rfl)) rfl (List.forall_mem_cons.mpr ⟨rfl, (List.forall_mem_cons.mpr ⟨rfl, fun _ h => nomatch h⟩)⟩) rfl dX7_amend_2 (aw_tX ⟨rfl, rfl⟩) aw_kX

set_option maxRecDepth 100000 in
set_option maxHeartbeats 4000000 in
theorem ax_typeInX {G : aw_G} {ow : Nat → Nat} {w : List va_E} {tn vn an : Nat} {R : Nat → List Int32} {vv : Nat → Nat} {ar : Nat → Nat → Int32} (hC : CP ow w tn vn an R vv ar) (hI : SI tn vn an R vv ar) {x f : Int32} (hb : ¬ ((0 ≤ x ∧ x ≤ nI vn - 1) ∧ (0 ≤ f ∧ f ≤ 5))) : AM G fX7_typeIn [.ref 0, .int x, .int f] w (qx (.inr "java/lang/IndexOutOfBoundsException") w) := by
  refine AM_of (by decide) rfl rfl (Nat.le_of_ble_eq_true rfl) ?_
  show AW G fX7_typeIn 2 12 w 0 [some (.ref 0), some (.int x), some (.int f), none] [] _
  obtain ⟨⟨hi1, hi2, hi3⟩, hiR, hiV, hiT, hiF, hiL, hiD, hiN⟩ := id hI
  obtain ⟨⟨tx, p9, k9, l9, lt9, st9, pn9, hS, hch, htx⟩, -, -, -, -, -⟩ := id hC
  have h00 := hS.1.2
  
  refine r_aload_n (pc := 0) dX7_typeIn_0 rfl rfl ?_
  refine r_iload_n (pc := 1) dX7_typeIn_1 rfl rfl ?_
  by_cases hx : 0 ≤ x ∧ x ≤ nI vn - 1
  · obtain ⟨a, ha, rfl⟩ := inV_nat (by omega) hx
    obtain ⟨b, hq, -⟩ := (hC.2.2.2.2.1 a ha)
    refine s_X7_130 (pc := 2) (kc' := 1) (ks' := 6) rfl rfl (ax_requireVersion h00 hi2 ha hq) h00 (Nat.le_of_ble_eq_true rfl) (Nat.le_of_ble_eq_true rfl) (Nat.le_of_ble_eq_true rfl) (Nat.le_of_ble_eq_true rfl) (by exact (Nat.le_of_ble_eq_true rfl)) rfl (List.forall_mem_cons.mpr ⟨rfl, (List.forall_mem_cons.mpr ⟨rfl, fun _ h => nomatch h⟩)⟩) rfl dX7_typeIn_2 aw_kt (aw_kq ?_)
    refine r_astore_n (pc := 5) dX7_typeIn_5 rfl (Nat.le_of_ble_eq_true rfl) rfl ?_
    refine r_iload_n (pc := 6) dX7_typeIn_6 rfl rfl ?_
    refine s_X7_71 (pc := 7) (kc' := 0) (ks' := 0) rfl rfl (ac_requireFieldX (fun z => hb ⟨hx, z⟩))  (Nat.le_of_ble_eq_true rfl) (Nat.le_of_ble_eq_true rfl) (Nat.le_of_ble_eq_true rfl) (Nat.le_of_ble_eq_true rfl) (by exact (Nat.le_of_ble_eq_true rfl)) rfl (List.forall_mem_cons.mpr ⟨rfl, fun _ h => nomatch h⟩) rfl dX7_typeIn_7 (aw_tX ⟨rfl, rfl⟩) aw_kX
  · refine s_X7_130 (pc := 2) (kc' := 1) (ks' := 6) rfl rfl (ax_requireVersionX h00 hi2 hx) h00 (Nat.le_of_ble_eq_true rfl) (Nat.le_of_ble_eq_true rfl) (Nat.le_of_ble_eq_true rfl) (Nat.le_of_ble_eq_true rfl) (by exact (Nat.le_of_ble_eq_true rfl)) rfl (List.forall_mem_cons.mpr ⟨rfl, (List.forall_mem_cons.mpr ⟨rfl, fun _ h => nomatch h⟩)⟩) rfl dX7_typeIn_2 (aw_tX ⟨rfl, rfl⟩) aw_kX

set_option maxRecDepth 100000 in
set_option maxHeartbeats 4000000 in
theorem ax_orderX {G : aw_G} {ow : Nat → Nat} {w : List va_E} {tn vn an : Nat} {R : Nat → List Int32} {vv : Nat → Nat} {ar : Nat → Nat → Int32} (hC : CP ow w tn vn an R vv ar) (hI : SI tn vn an R vv ar) {x f : Int32} (hb : ¬ ((0 ≤ x ∧ x ≤ nI vn - 1) ∧ (0 ≤ f))) : AM G fX7_order [.ref 0, .int x, .int f] w (qx (.inr "java/lang/IndexOutOfBoundsException") w) := by
  refine AM_of (by decide) rfl rfl (Nat.le_of_ble_eq_true rfl) ?_
  show AW G fX7_order 2 12 w 0 [some (.ref 0), some (.int x), some (.int f), none] [] _
  obtain ⟨⟨hi1, hi2, hi3⟩, hiR, hiV, hiT, hiF, hiL, hiD, hiN⟩ := id hI
  obtain ⟨⟨tx, p9, k9, l9, lt9, st9, pn9, hS, hch, htx⟩, -, -, -, -, -⟩ := id hC
  have h00 := hS.1.2
  
  refine r_aload_n (pc := 0) dX7_order_0 rfl rfl ?_
  refine r_iload_n (pc := 1) dX7_order_1 rfl rfl ?_
  by_cases hx : 0 ≤ x ∧ x ≤ nI vn - 1
  · obtain ⟨a, ha, rfl⟩ := inV_nat (by omega) hx
    obtain ⟨b, hq, -⟩ := (hC.2.2.2.2.1 a ha)
    refine s_X7_130 (pc := 2) (kc' := 1) (ks' := 6) rfl rfl (ax_requireVersion h00 hi2 ha hq) h00 (Nat.le_of_ble_eq_true rfl) (Nat.le_of_ble_eq_true rfl) (Nat.le_of_ble_eq_true rfl) (Nat.le_of_ble_eq_true rfl) (by exact (Nat.le_of_ble_eq_true rfl)) rfl (List.forall_mem_cons.mpr ⟨rfl, (List.forall_mem_cons.mpr ⟨rfl, fun _ h => nomatch h⟩)⟩) rfl dX7_order_2 aw_kt (aw_kq ?_)
    refine r_astore_n (pc := 5) dX7_order_5 rfl (Nat.le_of_ble_eq_true rfl) rfl ?_
    refine r_iload_n (pc := 6) dX7_order_6 rfl rfl ?_
    refine s_X7_138 (pc := 7) (kc' := 0) (ks' := 0) rfl rfl (ac_requirePlaceX (fun z => hb ⟨hx, z⟩))  (Nat.le_of_ble_eq_true rfl) (Nat.le_of_ble_eq_true rfl) (Nat.le_of_ble_eq_true rfl) (Nat.le_of_ble_eq_true rfl) (by exact (Nat.le_of_ble_eq_true rfl)) rfl (List.forall_mem_cons.mpr ⟨rfl, fun _ h => nomatch h⟩) rfl dX7_order_7 (aw_tX ⟨rfl, rfl⟩) aw_kX
  · refine s_X7_130 (pc := 2) (kc' := 1) (ks' := 6) rfl rfl (ax_requireVersionX h00 hi2 hx) h00 (Nat.le_of_ble_eq_true rfl) (Nat.le_of_ble_eq_true rfl) (Nat.le_of_ble_eq_true rfl) (Nat.le_of_ble_eq_true rfl) (by exact (Nat.le_of_ble_eq_true rfl)) rfl (List.forall_mem_cons.mpr ⟨rfl, (List.forall_mem_cons.mpr ⟨rfl, fun _ h => nomatch h⟩)⟩) rfl dX7_order_2 (aw_tX ⟨rfl, rfl⟩) aw_kX

set_option maxRecDepth 100000 in
set_option maxHeartbeats 4000000 in
theorem ax_stateOf {G : aw_G} {ow : Nat → Nat} {w : List va_E} {tn vn an : Nat} {R : Nat → List Int32} {vv : Nat → Nat} {ar : Nat → Nat → Int32} (hC : CP ow w tn vn an R vv ar) (hI : SI tn vn an R vv ar) {a : Nat} (ha : a < an) : AM G fX7_stateOf [.ref 0, .int (nI a)] w (qx (.inl (some (.int (ar 7 a)))) w) := by
  refine AM_of (by decide) rfl rfl (Nat.le_of_ble_eq_true rfl) ?_
  show AW G fX7_stateOf 1 6 w 0 [some (.ref 0), some (.int (nI a))] [] _
  obtain ⟨⟨hi1, hi2, hi3⟩, hiR, hiV, hiT, hiF, hiL, hiD, hiN⟩ := id hI
  obtain ⟨⟨tx, p9, k9, l9, lt9, st9, pn9, hS, hch, htx⟩, -, -, -, -, -⟩ := id hC
  have h00 := hS.1.2
  obtain ⟨b, fa, gd, hb, hf, hA, hM, hH⟩ := CP_at hC ha (hiV a ha)
  refine r_aload_n (pc := 0) dX7_stateOf_0 rfl rfl ?_
  refine r_iload_n (pc := 1) dX7_stateOf_1 rfl rfl ?_
  refine s_X7_154 (pc := 2) (kc' := 0) (ks' := 0) rfl rfl (ax_requireAnswer h00 hi3 ha hb) h00 (Nat.le_of_ble_eq_true rfl) (Nat.le_of_ble_eq_true rfl) (Nat.le_of_ble_eq_true rfl) (Nat.le_of_ble_eq_true rfl) (by exact (Nat.le_of_ble_eq_true rfl)) rfl (List.forall_mem_cons.mpr ⟨rfl, (List.forall_mem_cons.mpr ⟨rfl, fun _ h => nomatch h⟩)⟩) rfl dX7_stateOf_2 aw_kt (aw_kq ?_)
  refine s_X7_158 (pc := 5) (kc' := 0) (ks' := 0) rfl rfl (aa_stateNow hA) hA.1.2 (Nat.le_of_ble_eq_true rfl) (Nat.le_of_ble_eq_true rfl) (Nat.le_of_ble_eq_true rfl) (Nat.le_of_ble_eq_true rfl) (by exact (Nat.le_of_ble_eq_true rfl)) rfl (List.forall_mem_cons.mpr ⟨rfl, fun _ h => nomatch h⟩) rfl dX7_stateOf_5 aw_kt (aw_kq ?_)
  refine r_iret (pc := 8) rfl rfl dX7_stateOf_8 ?_
  exact ⟨rfl, rfl⟩

set_option maxRecDepth 100000 in
set_option maxHeartbeats 4000000 in
theorem ax_versionOf {G : aw_G} {ow : Nat → Nat} {w : List va_E} {tn vn an : Nat} {R : Nat → List Int32} {vv : Nat → Nat} {ar : Nat → Nat → Int32} (hC : CP ow w tn vn an R vv ar) (hI : SI tn vn an R vv ar) {a : Nat} (ha : a < an) : AM G fX7_versionOf [.ref 0, .int (nI a)] w (qx (.inl (some (.int (nI (vv a))))) w) := by
  refine AM_of (by decide) rfl rfl (Nat.le_of_ble_eq_true rfl) ?_
  show AW G fX7_versionOf 1 6 w 0 [some (.ref 0), some (.int (nI a))] [] _
  obtain ⟨⟨hi1, hi2, hi3⟩, hiR, hiV, hiT, hiF, hiL, hiD, hiN⟩ := id hI
  obtain ⟨⟨tx, p9, k9, l9, lt9, st9, pn9, hS, hch, htx⟩, -, -, -, -, -⟩ := id hC
  have h00 := hS.1.2
  obtain ⟨b, fa, gd, hb, hf, hA, hM, hH⟩ := CP_at hC ha (hiV a ha)
  refine r_aload_n (pc := 0) dX7_versionOf_0 rfl rfl ?_
  refine r_iload_n (pc := 1) dX7_versionOf_1 rfl rfl ?_
  refine s_X7_154 (pc := 2) (kc' := 0) (ks' := 0) rfl rfl (ax_requireAnswer h00 hi3 ha hb) h00 (Nat.le_of_ble_eq_true rfl) (Nat.le_of_ble_eq_true rfl) (Nat.le_of_ble_eq_true rfl) (Nat.le_of_ble_eq_true rfl) (by exact (Nat.le_of_ble_eq_true rfl)) rfl (List.forall_mem_cons.mpr ⟨rfl, (List.forall_mem_cons.mpr ⟨rfl, fun _ h => nomatch h⟩)⟩) rfl dX7_versionOf_2 aw_kt (aw_kq ?_)
  refine s_X7_183 (pc := 5) (kc' := 0) (ks' := 0) rfl rfl (aa_versionNumber hA) hA.1.2 (Nat.le_of_ble_eq_true rfl) (Nat.le_of_ble_eq_true rfl) (Nat.le_of_ble_eq_true rfl) (Nat.le_of_ble_eq_true rfl) (by exact (Nat.le_of_ble_eq_true rfl)) rfl (List.forall_mem_cons.mpr ⟨rfl, fun _ h => nomatch h⟩) rfl dX7_versionOf_5 aw_kt (aw_kq ?_)
  refine r_iret (pc := 8) rfl rfl dX7_versionOf_8 ?_
  exact ⟨rfl, rfl⟩

set_option maxRecDepth 100000 in
set_option maxHeartbeats 4000000 in
theorem ax_doubts {G : aw_G} {ow : Nat → Nat} {w : List va_E} {tn vn an : Nat} {R : Nat → List Int32} {vv : Nat → Nat} {ar : Nat → Nat → Int32} (hC : CP ow w tn vn an R vv ar) (hI : SI tn vn an R vv ar) {a : Nat} (ha : a < an) : AM G fX7_doubts [.ref 0, .int (nI a)] w (qx (.inl (some (.int (ar 11 a)))) w) := by
  refine AM_of (by decide) rfl rfl (Nat.le_of_ble_eq_true rfl) ?_
  show AW G fX7_doubts 1 6 w 0 [some (.ref 0), some (.int (nI a))] [] _
  obtain ⟨⟨hi1, hi2, hi3⟩, hiR, hiV, hiT, hiF, hiL, hiD, hiN⟩ := id hI
  obtain ⟨⟨tx, p9, k9, l9, lt9, st9, pn9, hS, hch, htx⟩, -, -, -, -, -⟩ := id hC
  have h00 := hS.1.2
  obtain ⟨b, fa, gd, hb, hf, hA, hM, hH⟩ := CP_at hC ha (hiV a ha)
  refine r_aload_n (pc := 0) dX7_doubts_0 rfl rfl ?_
  refine r_iload_n (pc := 1) dX7_doubts_1 rfl rfl ?_
  refine s_X7_154 (pc := 2) (kc' := 0) (ks' := 0) rfl rfl (ax_requireAnswer h00 hi3 ha hb) h00 (Nat.le_of_ble_eq_true rfl) (Nat.le_of_ble_eq_true rfl) (Nat.le_of_ble_eq_true rfl) (Nat.le_of_ble_eq_true rfl) (by exact (Nat.le_of_ble_eq_true rfl)) rfl (List.forall_mem_cons.mpr ⟨rfl, (List.forall_mem_cons.mpr ⟨rfl, fun _ h => nomatch h⟩)⟩) rfl dX7_doubts_2 aw_kt (aw_kq ?_)
  refine s_X7_224 (pc := 5) (kc' := 0) (ks' := 0) rfl rfl (aa_doubtedFields hA) hA.1.2 (Nat.le_of_ble_eq_true rfl) (Nat.le_of_ble_eq_true rfl) (Nat.le_of_ble_eq_true rfl) (Nat.le_of_ble_eq_true rfl) (by exact (Nat.le_of_ble_eq_true rfl)) rfl (List.forall_mem_cons.mpr ⟨rfl, fun _ h => nomatch h⟩) rfl dX7_doubts_5 aw_kt (aw_kq ?_)
  refine r_iret (pc := 8) rfl rfl dX7_doubts_8 ?_
  exact ⟨rfl, rfl⟩

set_option maxRecDepth 100000 in
set_option maxHeartbeats 4000000 in
theorem ax_value {G : aw_G} {ow : Nat → Nat} {w : List va_E} {tn vn an : Nat} {R : Nat → List Int32} {vv : Nat → Nat} {ar : Nat → Nat → Int32} (hC : CP ow w tn vn an R vv ar) (hI : SI tn vn an R vv ar) {a : Nat} (ha : a < an) {f : Nat} (hf6 : f < 6) : AM G fX7_value [.ref 0, .int (nI a), .int (nI f)] w (qx (if ar 10 (6 * a + f) = 0 then (.inr "java/lang/IllegalStateException") else .inl (some (.int (ar 9 (6 * a + f))))) w) := by
  refine AM_of (by decide) rfl rfl (Nat.le_of_ble_eq_true rfl) ?_
  show AW G fX7_value 3 18 w 0 [some (.ref 0), some (.int (nI a)), some (.int (nI f)), none] [] _
  obtain ⟨⟨hi1, hi2, hi3⟩, hiR, hiV, hiT, hiF, hiL, hiD, hiN⟩ := id hI
  obtain ⟨⟨tx, p9, k9, l9, lt9, st9, pn9, hS, hch, htx⟩, -, -, -, -, -⟩ := id hC
  have h00 := hS.1.2
  obtain ⟨b, fa, gd, hb, hf, hA, hM, hH⟩ := CP_at hC ha (hiV a ha)
  refine r_aload_n (pc := 0) dX7_value_0 rfl rfl ?_
  refine r_iload_n (pc := 1) dX7_value_1 rfl rfl ?_
  refine s_X7_154 (pc := 2) (kc' := 2) (ks' := 12) rfl rfl (ax_requireAnswer h00 hi3 ha hb) h00 (Nat.le_of_ble_eq_true rfl) (Nat.le_of_ble_eq_true rfl) (Nat.le_of_ble_eq_true rfl) (Nat.le_of_ble_eq_true rfl) (by exact (Nat.le_of_ble_eq_true rfl)) rfl (List.forall_mem_cons.mpr ⟨rfl, (List.forall_mem_cons.mpr ⟨rfl, fun _ h => nomatch h⟩)⟩) rfl dX7_value_2 aw_kt (aw_kq ?_)
  refine r_astore_n (pc := 5) dX7_value_5 rfl (Nat.le_of_ble_eq_true rfl) rfl ?_
  refine r_iload_n (pc := 6) dX7_value_6 rfl rfl ?_
  refine s_X7_71 (pc := 7) (kc' := 1) (ks' := 6) rfl rfl (ac_requireField hf6)  (Nat.le_of_ble_eq_true rfl) (Nat.le_of_ble_eq_true rfl) (Nat.le_of_ble_eq_true rfl) (Nat.le_of_ble_eq_true rfl) (by exact (Nat.le_of_ble_eq_true rfl)) rfl (List.forall_mem_cons.mpr ⟨rfl, fun _ h => nomatch h⟩) rfl dX7_value_7 aw_kt (aw_kv ?_)
  refine r_aload_n (pc := 10) dX7_value_10 rfl rfl ?_
  refine r_iload_n (pc := 11) dX7_value_11 rfl rfl ?_
  refine s_X7_186 (pc := 12) (kc' := 1) (ks' := 6) rfl rfl (aa_hasValue hA hf6) hA.1.2 (Nat.le_of_ble_eq_true rfl) (Nat.le_of_ble_eq_true rfl) (Nat.le_of_ble_eq_true rfl) (Nat.le_of_ble_eq_true rfl) (by exact (Nat.le_of_ble_eq_true rfl)) rfl (List.forall_mem_cons.mpr ⟨rfl, (List.forall_mem_cons.mpr ⟨rfl, fun _ h => nomatch h⟩)⟩) rfl dX7_value_12 aw_kt (aw_kq ?_)
  refine r_if_ne (pc := 15) (tgt := 28) dX7_value_15 (by decide) (fun h15 => ?_) (fun h15 => ?_)
  · refine r_aload_n (pc := 28) dX7_value_28 rfl rfl ?_
    refine r_iload_n (pc := 29) dX7_value_29 rfl rfl ?_
    refine s_X7_191 (pc := 30) (kc' := 1) (ks' := 6) rfl rfl (aa_valueAt hA hf6) hA.1.2 (Nat.le_of_ble_eq_true rfl) (Nat.le_of_ble_eq_true rfl) (Nat.le_of_ble_eq_true rfl) (Nat.le_of_ble_eq_true rfl) (by exact (Nat.le_of_ble_eq_true rfl)) rfl (List.forall_mem_cons.mpr ⟨rfl, (List.forall_mem_cons.mpr ⟨rfl, fun _ h => nomatch h⟩)⟩) rfl dX7_value_30 aw_kt (aw_kq ?_)
    refine r_iret (pc := 33) rfl rfl dX7_value_33 ?_
    exact ⟨by rw [if_neg h15], rfl⟩
  · refine t_ise (pc := 18) (text := "the field has no value") rfl rfl (by decide) dX7_value_18 dX7_value_21 dX7_value_22 dX7_value_24 dX7_value_27 (Nat.le_of_ble_eq_true rfl) (Nat.le_of_ble_eq_true rfl) (Nat.le_of_ble_eq_true rfl) (Nat.le_of_ble_eq_true rfl) ?_
    exact ⟨by rw [if_pos h15], rfl⟩

def xq_refusal (ow : Nat → Nat) (w : List va_E) (R : Nat → List Int32) (vv : Nat → Nat) (ar : Nat → Nat → Int32) (a : Nat)  : aw_R → List va_E → Prop := fun r w' => (ar 7 a = 0 ∧ r = (.inr "java/lang/IllegalStateException") ∧ w' = w) ∨ (ar 7 a ≠ 0 ∧ qs ow w (refU (fun j => ar 9 (6 * a + j)) (RA R (vv a)) 6 4) r w')
set_option maxRecDepth 100000 in
set_option maxHeartbeats 4000000 in
theorem ax_refusal {G : aw_G} {ow : Nat → Nat} {w : List va_E} {tn vn an : Nat} {R : Nat → List Int32} {vv : Nat → Nat} {ar : Nat → Nat → Int32} (hC : CP ow w tn vn an R vv ar) (hI : SI tn vn an R vv ar) {a : Nat} (ha : a < an) : AM G fX7_refusal [.ref 0, .int (nI a)] w (xq_refusal ow w R vv ar a) := by
  refine AM_of (by decide) rfl rfl (Nat.le_of_ble_eq_true rfl) ?_
  show AW G fX7_refusal 2 12 w 0 [some (.ref 0), some (.int (nI a)), none] [] _
  obtain ⟨⟨hi1, hi2, hi3⟩, hiR, hiV, hiT, hiF, hiL, hiD, hiN⟩ := id hI
  obtain ⟨⟨tx, p9, k9, l9, lt9, st9, pn9, hS, hch, htx⟩, -, -, -, -, -⟩ := id hC
  have h00 := hS.1.2
  obtain ⟨b, fa, gd, hb, hf, hA, hM, hH⟩ := CP_at hC ha (hiV a ha)
  refine r_aload_n (pc := 0) dX7_refusal_0 rfl rfl ?_
  refine r_iload_n (pc := 1) dX7_refusal_1 rfl rfl ?_
  refine s_X7_154 (pc := 2) (kc' := 1) (ks' := 6) rfl rfl (ax_requireAnswer h00 hi3 ha hb) h00 (Nat.le_of_ble_eq_true rfl) (Nat.le_of_ble_eq_true rfl) (Nat.le_of_ble_eq_true rfl) (Nat.le_of_ble_eq_true rfl) (by exact (Nat.le_of_ble_eq_true rfl)) rfl (List.forall_mem_cons.mpr ⟨rfl, (List.forall_mem_cons.mpr ⟨rfl, fun _ h => nomatch h⟩)⟩) rfl dX7_refusal_2 aw_kt (aw_kq ?_)
  refine r_astore_n (pc := 5) dX7_refusal_5 rfl (Nat.le_of_ble_eq_true rfl) rfl ?_
  refine r_aload_n (pc := 6) dX7_refusal_6 rfl rfl ?_
  refine s_X7_158 (pc := 7) (kc' := 1) (ks' := 6) rfl rfl (aa_stateNow hA) hA.1.2 (Nat.le_of_ble_eq_true rfl) (Nat.le_of_ble_eq_true rfl) (Nat.le_of_ble_eq_true rfl) (Nat.le_of_ble_eq_true rfl) (by exact (Nat.le_of_ble_eq_true rfl)) rfl (List.forall_mem_cons.mpr ⟨rfl, fun _ h => nomatch h⟩) rfl dX7_refusal_7 aw_kt (aw_kq ?_)
  refine r_if_ne (pc := 10) (tgt := 23) dX7_refusal_10 (by decide) (fun h10 => ?_) (fun h10 => ?_)
  · refine r_aload_n (pc := 23) dX7_refusal_23 rfl rfl ?_
    refine s_X7_196 (pc := 24) (kc' := 1) (ks' := 6) rfl rfl (aa_refusingCheck hA hM (by omega) (by decide) (due_ne hI (hiV a ha)) (hiL a ha)) hA.1.2 (Nat.le_of_ble_eq_true rfl) (Nat.le_of_ble_eq_true rfl) (Nat.le_of_ble_eq_true rfl) (Nat.le_of_ble_eq_true rfl) (by exact (Nat.le_of_ble_eq_true rfl)) rfl (List.forall_mem_cons.mpr ⟨rfl, fun _ h => nomatch h⟩) rfl dX7_refusal_24 aw_ts (aw_ks (fun w2 hk2 => ?_))
    refine r_iret (pc := 27) rfl rfl dX7_refusal_27 ?_
    exact Or.inr ⟨h10, rfl, hk2⟩
  · refine t_ise (pc := 13) (text := "the answer is OPEN") rfl rfl (by decide) dX7_refusal_13 dX7_refusal_16 dX7_refusal_17 dX7_refusal_19 dX7_refusal_22 (Nat.le_of_ble_eq_true rfl) (Nat.le_of_ble_eq_true rfl) (Nat.le_of_ble_eq_true rfl) (Nat.le_of_ble_eq_true rfl) ?_
    exact Or.inl ⟨h10, rfl, rfl⟩

def xq_doubt (ow : Nat → Nat) (w : List va_E) (R : Nat → List Int32) (vv : Nat → Nat) (ar : Nat → Nat → Int32) (a : Nat)  (f : Nat)  : aw_R → List va_E → Prop := fun r w' => (¬ ((ar 7 a = 1 ∨ ar 7 a = 3) ∧ ar 4 (6 * (vv a + 1) + f) ≠ 0) ∧ r = (.inr "java/lang/IllegalStateException") ∧ w' = w) ∨ (((ar 7 a = 1 ∨ ar 7 a = 3) ∧ ar 4 (6 * (vv a + 1) + f) ≠ 0) ∧ r = .inl (some (.int (bi (bitI (ar 11 a) f)))) ∧ AZ ow w w' vv a (if ar 11 a ||| b1 f = 0 then 1 else 3) (ar 11 a ||| b1 f) (fun j => ar 9 (6 * a + j)) (fun j => ar 10 (6 * a + j)))
set_option maxRecDepth 100000 in
set_option maxHeartbeats 4000000 in
theorem ax_doubt {G : aw_G} {ow : Nat → Nat} {w : List va_E} {tn vn an : Nat} {R : Nat → List Int32} {vv : Nat → Nat} {ar : Nat → Nat → Int32} (hC : CP ow w tn vn an R vv ar) (hI : SI tn vn an R vv ar) {a : Nat} (ha : a < an) {f : Nat} (hf6 : f < 6) : AM G fX7_doubt [.ref 0, .int (nI a), .int (nI f)] w (xq_doubt ow w R vv ar a f) := by
  refine AM_of (by decide) rfl rfl (Nat.le_of_ble_eq_true rfl) ?_
  show AW G fX7_doubt 3 18 w 0 [some (.ref 0), some (.int (nI a)), some (.int (nI f)), none, none] [] _
  obtain ⟨⟨hi1, hi2, hi3⟩, hiR, hiV, hiT, hiF, hiL, hiD, hiN⟩ := id hI
  obtain ⟨⟨tx, p9, k9, l9, lt9, st9, pn9, hS, hch, htx⟩, -, -, -, -, -⟩ := id hC
  have h00 := hS.1.2
  obtain ⟨b, fa, gd, hb, hf, hA, hM, hH⟩ := CP_at hC ha (hiV a ha)
  refine r_aload_n (pc := 0) dX7_doubt_0 rfl rfl ?_
  refine r_iload_n (pc := 1) dX7_doubt_1 rfl rfl ?_
  refine s_X7_154 (pc := 2) (kc' := 2) (ks' := 12) rfl rfl (ax_requireAnswer h00 hi3 ha hb) h00 (Nat.le_of_ble_eq_true rfl) (Nat.le_of_ble_eq_true rfl) (Nat.le_of_ble_eq_true rfl) (Nat.le_of_ble_eq_true rfl) (by exact (Nat.le_of_ble_eq_true rfl)) rfl (List.forall_mem_cons.mpr ⟨rfl, (List.forall_mem_cons.mpr ⟨rfl, fun _ h => nomatch h⟩)⟩) rfl dX7_doubt_2 aw_kt (aw_kq ?_)
  refine r_astore_n (pc := 5) dX7_doubt_5 rfl (Nat.le_of_ble_eq_true rfl) rfl ?_
  refine r_iload_n (pc := 6) dX7_doubt_6 rfl rfl ?_
  refine s_X7_71 (pc := 7) (kc' := 1) (ks' := 6) rfl rfl (ac_requireField hf6)  (Nat.le_of_ble_eq_true rfl) (Nat.le_of_ble_eq_true rfl) (Nat.le_of_ble_eq_true rfl) (Nat.le_of_ble_eq_true rfl) (by exact (Nat.le_of_ble_eq_true rfl)) rfl (List.forall_mem_cons.mpr ⟨rfl, fun _ h => nomatch h⟩) rfl dX7_doubt_7 aw_kt (aw_kv ?_)
  refine r_aload_n (pc := 10) dX7_doubt_10 rfl rfl ?_
  refine s_X7_199 (pc := 11) (kc' := 1) (ks' := 6) rfl rfl (aa_isReviewable hA) hA.1.2 (Nat.le_of_ble_eq_true rfl) (Nat.le_of_ble_eq_true rfl) (Nat.le_of_ble_eq_true rfl) (Nat.le_of_ble_eq_true rfl) (by exact (Nat.le_of_ble_eq_true rfl)) rfl (List.forall_mem_cons.mpr ⟨rfl, fun _ h => nomatch h⟩) rfl dX7_doubt_11 aw_kt (aw_kq ?_)
  refine r_if_eq (pc := 14) (tgt := 25) dX7_doubt_14 (by decide) (fun h14 => ?_) (fun h14 => ?_)
  · refine t_ise (pc := 25) (text := "neither COUNTED nor HELD, or the field is ABSENT") rfl rfl (by decide) dX7_doubt_25 dX7_doubt_28 dX7_doubt_29 dX7_doubt_31 dX7_doubt_34 (Nat.le_of_ble_eq_true rfl) (Nat.le_of_ble_eq_true rfl) (Nat.le_of_ble_eq_true rfl) (Nat.le_of_ble_eq_true rfl) ?_
    exact Or.inl ⟨fun z => absurd (decide_eq_true z.1) (by rw [bi_eq.mp h14]; decide), rfl, rfl⟩
  · refine r_aload_n (pc := 17) dX7_doubt_17 rfl rfl ?_
    refine r_iload_n (pc := 18) dX7_doubt_18 rfl rfl ?_
    refine s_X7_203 (pc := 19) (kc' := 1) (ks' := 6) rfl rfl (aa_hasField hA hM hf6) hA.1.2 (Nat.le_of_ble_eq_true rfl) (Nat.le_of_ble_eq_true rfl) (Nat.le_of_ble_eq_true rfl) (Nat.le_of_ble_eq_true rfl) (by exact (Nat.le_of_ble_eq_true rfl)) rfl (List.forall_mem_cons.mpr ⟨rfl, (List.forall_mem_cons.mpr ⟨rfl, fun _ h => nomatch h⟩)⟩) rfl dX7_doubt_19 aw_kt (aw_kq ?_)
    refine r_if_ne (pc := 22) (tgt := 35) dX7_doubt_22 (by decide) (fun h22 => ?_) (fun h22 => ?_)
    · refine r_aload_n (pc := 35) dX7_doubt_35 rfl rfl ?_
      refine r_iload_n (pc := 36) dX7_doubt_36 rfl rfl ?_
      refine s_X7_208 (pc := 37) (kc' := 1) (ks' := 6) rfl rfl (aa_isDoubted hA f) hA.1.2 (Nat.le_of_ble_eq_true rfl) (Nat.le_of_ble_eq_true rfl) (Nat.le_of_ble_eq_true rfl) (Nat.le_of_ble_eq_true rfl) (by exact (Nat.le_of_ble_eq_true rfl)) rfl (List.forall_mem_cons.mpr ⟨rfl, (List.forall_mem_cons.mpr ⟨rfl, fun _ h => nomatch h⟩)⟩) rfl dX7_doubt_37 aw_kt (aw_kq ?_)
      refine r_istore (pc := 40) dX7_doubt_40 (Nat.le_of_ble_eq_true rfl) rfl ?_
      refine r_aload_n (pc := 42) dX7_doubt_42 rfl rfl ?_
      refine r_iconst (pc := 43) (v := 1) dX7_doubt_43 (by decide) ?_
      refine r_iload_n (pc := 44) dX7_doubt_44 rfl rfl ?_
      refine r_ishl (pc := 45) dX7_doubt_45 ?_
      refine s_X7_211 (pc := 46) (kc' := 1) (ks' := 6) rfl rfl (aa_addDoubts hA (by omega) (b1 f)) hA.1.2 (Nat.le_of_ble_eq_true rfl) (Nat.le_of_ble_eq_true rfl) (Nat.le_of_ble_eq_true rfl) (Nat.le_of_ble_eq_true rfl) (by exact (Nat.le_of_ble_eq_true rfl)) rfl (List.forall_mem_cons.mpr ⟨rfl, (List.forall_mem_cons.mpr ⟨rfl, fun _ h => nomatch h⟩)⟩) rfl dX7_doubt_46 aw_tA (aw_kA (fun w2 hk2 hA2 => ?_))
      refine r_iload (pc := 49) dX7_doubt_49 rfl ?_
      refine r_iret (pc := 51) rfl (bi_nar _) dX7_doubt_51 ?_
      exact Or.inr ⟨⟨of_decide_eq_true (bi_ne.mp h14), of_decide_eq_true (bi_ne.mp h22)⟩, rfl, AZ_of hb hf hk2 (by simp) hA2⟩
    · refine t_ise (pc := 25) (text := "neither COUNTED nor HELD, or the field is ABSENT") rfl rfl (by decide) dX7_doubt_25 dX7_doubt_28 dX7_doubt_29 dX7_doubt_31 dX7_doubt_34 (Nat.le_of_ble_eq_true rfl) (Nat.le_of_ble_eq_true rfl) (Nat.le_of_ble_eq_true rfl) (Nat.le_of_ble_eq_true rfl) ?_
      exact Or.inl ⟨fun z => absurd (decide_eq_true z.2) (by rw [show decide (ar 4 (6 * (vv a + 1) + f) ≠ 0) = false from bi_eq.mp h22]; decide), rfl, rfl⟩

def xq_settle (ow : Nat → Nat) (w : List va_E) (R : Nat → List Int32) (vv : Nat → Nat) (ar : Nat → Nat → Int32) (a : Nat)  (f : Nat)  (g : Int32) : aw_R → List va_E → Prop := fun r w' => (¬ (ar 7 a = 3 ∧ bitI (ar 11 a) f = true) ∧ r = (.inr "java/lang/IllegalStateException") ∧ w' = w) ∨ ((ar 7 a = 3 ∧ bitI (ar 11 a) f = true) ∧ ((g ≠ 0 ∧ r = .inl (some (.int (if ar 11 a &&& (b1 f ^^^ (-1)) = 0 then 1 else 3))) ∧ AZ ow w w' vv a (if ar 11 a &&& (b1 f ^^^ (-1)) = 0 then 1 else 3) (ar 11 a &&& (b1 f ^^^ (-1))) (fun j => ar 9 (6 * a + j)) (fun j => ar 10 (6 * a + j))) ∨ (g = 0 ∧ r = .inl (some (.int 4)) ∧ AZ ow w w' vv a (4) (ar 11 a) (fun j => ar 9 (6 * a + j)) (fun j => ar 10 (6 * a + j)))))
set_option maxRecDepth 100000 in
set_option maxHeartbeats 4000000 in
theorem ax_settle {G : aw_G} {ow : Nat → Nat} {w : List va_E} {tn vn an : Nat} {R : Nat → List Int32} {vv : Nat → Nat} {ar : Nat → Nat → Int32} (hC : CP ow w tn vn an R vv ar) (hI : SI tn vn an R vv ar) {a : Nat} (ha : a < an) {f : Nat} (hf6 : f < 6) (g : Int32) : AM G fX7_settle [.ref 0, .int (nI a), .int (nI f), .int g] w (xq_settle ow w R vv ar a f g) := by
  refine AM_of (by decide) rfl rfl (Nat.le_of_ble_eq_true rfl) ?_
  show AW G fX7_settle 3 18 w 0 [some (.ref 0), some (.int (nI a)), some (.int (nI f)), some (.int g), none] [] _
  obtain ⟨⟨hi1, hi2, hi3⟩, hiR, hiV, hiT, hiF, hiL, hiD, hiN⟩ := id hI
  obtain ⟨⟨tx, p9, k9, l9, lt9, st9, pn9, hS, hch, htx⟩, -, -, -, -, -⟩ := id hC
  have h00 := hS.1.2
  obtain ⟨b, fa, gd, hb, hf, hA, hM, hH⟩ := CP_at hC ha (hiV a ha)
  refine r_aload_n (pc := 0) dX7_settle_0 rfl rfl ?_
  refine r_iload_n (pc := 1) dX7_settle_1 rfl rfl ?_
  refine s_X7_154 (pc := 2) (kc' := 2) (ks' := 12) rfl rfl (ax_requireAnswer h00 hi3 ha hb) h00 (Nat.le_of_ble_eq_true rfl) (Nat.le_of_ble_eq_true rfl) (Nat.le_of_ble_eq_true rfl) (Nat.le_of_ble_eq_true rfl) (by exact (Nat.le_of_ble_eq_true rfl)) rfl (List.forall_mem_cons.mpr ⟨rfl, (List.forall_mem_cons.mpr ⟨rfl, fun _ h => nomatch h⟩)⟩) rfl dX7_settle_2 aw_kt (aw_kq ?_)
  refine r_astore (pc := 5) dX7_settle_5 (Nat.le_of_ble_eq_true rfl) rfl ?_
  refine r_iload_n (pc := 7) dX7_settle_7 rfl rfl ?_
  refine s_X7_71 (pc := 8) (kc' := 1) (ks' := 6) rfl rfl (ac_requireField hf6)  (Nat.le_of_ble_eq_true rfl) (Nat.le_of_ble_eq_true rfl) (Nat.le_of_ble_eq_true rfl) (Nat.le_of_ble_eq_true rfl) (by exact (Nat.le_of_ble_eq_true rfl)) rfl (List.forall_mem_cons.mpr ⟨rfl, fun _ h => nomatch h⟩) rfl dX7_settle_8 aw_kt (aw_kv ?_)
  refine r_aload (pc := 11) dX7_settle_11 rfl ?_
  refine s_X7_158 (pc := 13) (kc' := 1) (ks' := 6) rfl rfl (aa_stateNow hA) hA.1.2 (Nat.le_of_ble_eq_true rfl) (Nat.le_of_ble_eq_true rfl) (Nat.le_of_ble_eq_true rfl) (Nat.le_of_ble_eq_true rfl) (by exact (Nat.le_of_ble_eq_true rfl)) rfl (List.forall_mem_cons.mpr ⟨rfl, fun _ h => nomatch h⟩) rfl dX7_settle_13 aw_kt (aw_kq ?_)
  refine r_iconst (pc := 16) (v := 3) dX7_settle_16 (by decide) ?_
  refine r_icmp_ne (pc := 17) (tgt := 29) dX7_settle_17 (by decide) (fun h17 => ?_) (fun h17 => ?_)
  · refine t_ise (pc := 29) (text := "not HELD, or not doubted in the field") rfl rfl (by decide) dX7_settle_29 dX7_settle_32 dX7_settle_33 dX7_settle_35 dX7_settle_38 (Nat.le_of_ble_eq_true rfl) (Nat.le_of_ble_eq_true rfl) (Nat.le_of_ble_eq_true rfl) (Nat.le_of_ble_eq_true rfl) ?_
    exact Or.inl ⟨fun z => h17 z.1, rfl, rfl⟩
  · refine r_aload (pc := 20) dX7_settle_20 rfl ?_
    refine r_iload_n (pc := 22) dX7_settle_22 rfl rfl ?_
    refine s_X7_208 (pc := 23) (kc' := 1) (ks' := 6) rfl rfl (aa_isDoubted hA f) hA.1.2 (Nat.le_of_ble_eq_true rfl) (Nat.le_of_ble_eq_true rfl) (Nat.le_of_ble_eq_true rfl) (Nat.le_of_ble_eq_true rfl) (by exact (Nat.le_of_ble_eq_true rfl)) rfl (List.forall_mem_cons.mpr ⟨rfl, (List.forall_mem_cons.mpr ⟨rfl, fun _ h => nomatch h⟩)⟩) rfl dX7_settle_23 aw_kt (aw_kq ?_)
    refine r_if_ne (pc := 26) (tgt := 39) dX7_settle_26 (by decide) (fun h26 => ?_) (fun h26 => ?_)
    · refine r_iload_n (pc := 39) dX7_settle_39 rfl rfl ?_
      refine r_if_eq (pc := 40) (tgt := 52) dX7_settle_40 (by decide) (fun h40 => ?_) (fun h40 => ?_)
      · refine r_aload (pc := 52) dX7_settle_52 rfl ?_
        refine s_X7_219 (pc := 54) (kc' := 1) (ks' := 6) rfl rfl (aa_strike hA (by omega)) hA.1.2 (Nat.le_of_ble_eq_true rfl) (Nat.le_of_ble_eq_true rfl) (Nat.le_of_ble_eq_true rfl) (Nat.le_of_ble_eq_true rfl) (by exact (Nat.le_of_ble_eq_true rfl)) rfl (List.forall_mem_cons.mpr ⟨rfl, fun _ h => nomatch h⟩) rfl dX7_settle_54 aw_tA (aw_kA (fun w2 hk2 hA2 => ?_))
        refine r_aload (pc := 57) dX7_settle_57 rfl ?_
        refine s_X7_158 (pc := 59) (kc' := 1) (ks' := 6) rfl rfl (aa_stateNow hA2) hA2.1.2 (Nat.le_of_ble_eq_true rfl) (Nat.le_of_ble_eq_true rfl) (Nat.le_of_ble_eq_true rfl) (Nat.le_of_ble_eq_true rfl) (by exact (Nat.le_of_ble_eq_true rfl)) rfl (List.forall_mem_cons.mpr ⟨rfl, fun _ h => nomatch h⟩) rfl dX7_settle_59 aw_kt (aw_kq ?_)
        refine r_iret (pc := 62) rfl rfl dX7_settle_62 ?_
        exact Or.inr ⟨⟨h17, bi_ne.mp h26⟩, Or.inr ⟨h40, rfl, AZ_of hb hf hk2 (by simp) hA2⟩⟩
      · refine r_aload (pc := 43) dX7_settle_43 rfl ?_
        refine r_iload_n (pc := 45) dX7_settle_45 rfl rfl ?_
        refine s_X7_216 (pc := 46) (kc' := 1) (ks' := 6) rfl rfl (aa_release hA (by omega) f) hA.1.2 (Nat.le_of_ble_eq_true rfl) (Nat.le_of_ble_eq_true rfl) (Nat.le_of_ble_eq_true rfl) (Nat.le_of_ble_eq_true rfl) (by exact (Nat.le_of_ble_eq_true rfl)) rfl (List.forall_mem_cons.mpr ⟨rfl, (List.forall_mem_cons.mpr ⟨rfl, fun _ h => nomatch h⟩)⟩) rfl dX7_settle_46 aw_tA (aw_kA (fun w2 hk2 hA2 => ?_))
        refine r_goto (pc := 49) (tgt := 57) dX7_settle_49 (by decide) ?_
        refine r_aload (pc := 57) dX7_settle_57 rfl ?_
        refine s_X7_158 (pc := 59) (kc' := 1) (ks' := 6) rfl rfl (aa_stateNow hA2) hA2.1.2 (Nat.le_of_ble_eq_true rfl) (Nat.le_of_ble_eq_true rfl) (Nat.le_of_ble_eq_true rfl) (Nat.le_of_ble_eq_true rfl) (by exact (Nat.le_of_ble_eq_true rfl)) rfl (List.forall_mem_cons.mpr ⟨rfl, fun _ h => nomatch h⟩) rfl dX7_settle_59 aw_kt (aw_kq ?_)
        refine r_iret (pc := 62) rfl rfl dX7_settle_62 ?_
        exact Or.inr ⟨⟨h17, bi_ne.mp h26⟩, Or.inl ⟨h40, rfl, AZ_of hb hf hk2 (by simp) hA2⟩⟩
    · refine t_ise (pc := 29) (text := "not HELD, or not doubted in the field") rfl rfl (by decide) dX7_settle_29 dX7_settle_32 dX7_settle_33 dX7_settle_35 dX7_settle_38 (Nat.le_of_ble_eq_true rfl) (Nat.le_of_ble_eq_true rfl) (Nat.le_of_ble_eq_true rfl) (Nat.le_of_ble_eq_true rfl) ?_
      exact Or.inl ⟨fun z => absurd z.2 (by rw [bi_eq.mp h26]; decide), rfl, rfl⟩

def xq_put (ow : Nat → Nat) (w : List va_E) (R : Nat → List Int32) (vv : Nat → Nat) (ar : Nat → Nat → Int32) (a : Nat)  (f : Nat)  (x : Int32) : aw_R → List va_E → Prop := fun r w' => (¬ (ar 7 a = 0 ∧ canP ar R (vv a) f = true) ∧ r = (.inr "java/lang/IllegalStateException") ∧ w' = w) ∨ ((ar 7 a = 0 ∧ canP ar R (vv a) f = true) ∧ ¬ rightP (ar 4 (6 * (vv a + 1) + f)) x = true ∧ r = (.inr "java/lang/IllegalArgumentException") ∧ w' = w) ∨ ((ar 7 a = 0 ∧ canP ar R (vv a) f = true) ∧ rightP (ar 4 (6 * (vv a + 1) + f)) x = true ∧ r = .inl (some (.int (nI (cntU (fun g => (decide (tyA ar (vv a) g ≠ 0) && decide (RA R (vv a) g = [])) && decide (upd (fun j => ar 10 (6 * a + j)) f 1 g = 0)) 0 6)))) ∧ AZ ow w w' vv a (ar 7 a) (ar 11 a) (upd (fun j => ar 9 (6 * a + j)) f x) (upd (fun j => ar 10 (6 * a + j)) f 1))
set_option maxRecDepth 100000 in
set_option maxHeartbeats 4000000 in
theorem ax_put {G : aw_G} {ow : Nat → Nat} {w : List va_E} {tn vn an : Nat} {R : Nat → List Int32} {vv : Nat → Nat} {ar : Nat → Nat → Int32} (hC : CP ow w tn vn an R vv ar) (hI : SI tn vn an R vv ar) {a : Nat} (ha : a < an) {f : Nat} (hf6 : f < 6) (x : Int32) : AM G fX7_put [.ref 0, .int (nI a), .int (nI f), .int x] w (xq_put ow w R vv ar a f x) := by
  refine AM_of (by decide) rfl rfl (Nat.le_of_ble_eq_true rfl) ?_
  show AW G fX7_put 4 24 w 0 [some (.ref 0), some (.int (nI a)), some (.int (nI f)), some (.int x), none] [] _
  obtain ⟨⟨hi1, hi2, hi3⟩, hiR, hiV, hiT, hiF, hiL, hiD, hiN⟩ := id hI
  obtain ⟨⟨tx, p9, k9, l9, lt9, st9, pn9, hS, hch, htx⟩, -, -, -, -, -⟩ := id hC
  have h00 := hS.1.2
  obtain ⟨b, fa, gd, hb, hf, hA, hM, hH⟩ := CP_at hC ha (hiV a ha)
  refine r_aload_n (pc := 0) dX7_put_0 rfl rfl ?_
  refine r_iload_n (pc := 1) dX7_put_1 rfl rfl ?_
  refine s_X7_154 (pc := 2) (kc' := 3) (ks' := 18) rfl rfl (ax_requireAnswer h00 hi3 ha hb) h00 (Nat.le_of_ble_eq_true rfl) (Nat.le_of_ble_eq_true rfl) (Nat.le_of_ble_eq_true rfl) (Nat.le_of_ble_eq_true rfl) (by exact (Nat.le_of_ble_eq_true rfl)) rfl (List.forall_mem_cons.mpr ⟨rfl, (List.forall_mem_cons.mpr ⟨rfl, fun _ h => nomatch h⟩)⟩) rfl dX7_put_2 aw_kt (aw_kq ?_)
  refine r_astore (pc := 5) dX7_put_5 (Nat.le_of_ble_eq_true rfl) rfl ?_
  refine r_iload_n (pc := 7) dX7_put_7 rfl rfl ?_
  refine s_X7_71 (pc := 8) (kc' := 2) (ks' := 12) rfl rfl (ac_requireField hf6)  (Nat.le_of_ble_eq_true rfl) (Nat.le_of_ble_eq_true rfl) (Nat.le_of_ble_eq_true rfl) (Nat.le_of_ble_eq_true rfl) (by exact (Nat.le_of_ble_eq_true rfl)) rfl (List.forall_mem_cons.mpr ⟨rfl, fun _ h => nomatch h⟩) rfl dX7_put_8 aw_kt (aw_kv ?_)
  refine r_aload (pc := 11) dX7_put_11 rfl ?_
  refine s_X7_158 (pc := 13) (kc' := 2) (ks' := 12) rfl rfl (aa_stateNow hA) hA.1.2 (Nat.le_of_ble_eq_true rfl) (Nat.le_of_ble_eq_true rfl) (Nat.le_of_ble_eq_true rfl) (Nat.le_of_ble_eq_true rfl) (by exact (Nat.le_of_ble_eq_true rfl)) rfl (List.forall_mem_cons.mpr ⟨rfl, fun _ h => nomatch h⟩) rfl dX7_put_13 aw_kt (aw_kq ?_)
  refine r_if_ne (pc := 16) (tgt := 28) dX7_put_16 (by decide) (fun h16 => ?_) (fun h16 => ?_)
  · refine t_ise (pc := 28) (text := "not OPEN, or no field to put a value into") rfl rfl (by decide) dX7_put_28 dX7_put_31 dX7_put_32 dX7_put_34 dX7_put_37 (Nat.le_of_ble_eq_true rfl) (Nat.le_of_ble_eq_true rfl) (Nat.le_of_ble_eq_true rfl) (Nat.le_of_ble_eq_true rfl) ?_
    exact Or.inl ⟨fun z => h16 z.1, rfl, rfl⟩
  · refine r_aload (pc := 19) dX7_put_19 rfl ?_
    refine r_iload_n (pc := 21) dX7_put_21 rfl rfl ?_
    refine s_X7_161 (pc := 22) (kc' := 2) (ks' := 12) rfl rfl (aa_isPutField hA hM hf6) hA.1.2 (Nat.le_of_ble_eq_true rfl) (Nat.le_of_ble_eq_true rfl) (Nat.le_of_ble_eq_true rfl) (Nat.le_of_ble_eq_true rfl) (by exact (Nat.le_of_ble_eq_true rfl)) rfl (List.forall_mem_cons.mpr ⟨rfl, (List.forall_mem_cons.mpr ⟨rfl, fun _ h => nomatch h⟩)⟩) rfl dX7_put_22 aw_kt (aw_kq ?_)
    refine r_if_ne (pc := 25) (tgt := 38) dX7_put_25 (by decide) (fun h25 => ?_) (fun h25 => ?_)
    · have hc9 : canP ar R (vv a) f = true := bi_ne.mp h25
      have hty3 : tyA ar (vv a) f = 1 ∨ tyA ar (vv a) f = 2 ∨ tyA ar (vv a) f = 3 := by
        rcases ty_ne1 hI (hiV a ha) hf6 with e | e
        · unfold canP at hc9
          rw [Bool.and_eq_true] at hc9
          exact absurd e (of_decide_eq_true hc9.1)
        · exact e
      refine r_aload (pc := 38) dX7_put_38 rfl ?_
      refine r_iload_n (pc := 40) dX7_put_40 rfl rfl ?_
      refine r_iload_n (pc := 41) dX7_put_41 rfl rfl ?_
      refine s_X7_166 (pc := 42) (kc' := 2) (ks' := 12) rfl rfl (aa_accepts hA hM hf6 x hty3) hA.1.2 (Nat.le_of_ble_eq_true rfl) (Nat.le_of_ble_eq_true rfl) (Nat.le_of_ble_eq_true rfl) (Nat.le_of_ble_eq_true rfl) (by exact (Nat.le_of_ble_eq_true rfl)) rfl (List.forall_mem_cons.mpr ⟨rfl, (List.forall_mem_cons.mpr ⟨rfl, (List.forall_mem_cons.mpr ⟨rfl, fun _ h => nomatch h⟩)⟩)⟩) rfl dX7_put_42 aw_kt (aw_kq ?_)
      refine r_if_ne (pc := 45) (tgt := 58) dX7_put_45 (by decide) (fun h45 => ?_) (fun h45 => ?_)
      · refine r_aload (pc := 58) dX7_put_58 rfl ?_
        refine r_iload_n (pc := 60) dX7_put_60 rfl rfl ?_
        refine r_iload_n (pc := 61) dX7_put_61 rfl rfl ?_
        refine s_X7_172 (pc := 62) (kc' := 2) (ks' := 12) rfl rfl (aa_write hA (by omega) hf6 x) hA.1.2 (Nat.le_of_ble_eq_true rfl) (Nat.le_of_ble_eq_true rfl) (Nat.le_of_ble_eq_true rfl) (Nat.le_of_ble_eq_true rfl) (by exact (Nat.le_of_ble_eq_true rfl)) rfl (List.forall_mem_cons.mpr ⟨rfl, (List.forall_mem_cons.mpr ⟨rfl, (List.forall_mem_cons.mpr ⟨rfl, fun _ h => nomatch h⟩)⟩)⟩) rfl dX7_put_62 aw_tA (aw_kA (fun w2 hk2 hA2 => ?_))
        have hM2 := FM_kp hM hk2 n0a n0a
        refine r_aload (pc := 65) dX7_put_65 rfl ?_
        refine s_X7_175 (pc := 67) (kc' := 2) (ks' := 12) rfl rfl (aa_countMissing hA2 hM2) hA2.1.2 (Nat.le_of_ble_eq_true rfl) (Nat.le_of_ble_eq_true rfl) (Nat.le_of_ble_eq_true rfl) (Nat.le_of_ble_eq_true rfl) (by exact (Nat.le_of_ble_eq_true rfl)) rfl (List.forall_mem_cons.mpr ⟨rfl, fun _ h => nomatch h⟩) rfl dX7_put_67 aw_kt (aw_kq ?_)
        refine r_iret (pc := 70) rfl rfl dX7_put_70 ?_
        exact Or.inr (Or.inr ⟨⟨h16, hc9⟩, bi_ne.mp h45, rfl, AZ_of hb hf hk2 (by simp) hA2⟩)
      · refine t_iae (pc := 48) (text := "the value is out of range") rfl rfl (by decide) dX7_put_48 dX7_put_51 dX7_put_52 dX7_put_54 dX7_put_57 (Nat.le_of_ble_eq_true rfl) (Nat.le_of_ble_eq_true rfl) (Nat.le_of_ble_eq_true rfl) (Nat.le_of_ble_eq_true rfl) ?_
        exact Or.inr (Or.inl ⟨⟨h16, hc9⟩, fun z => absurd z (by rw [show rightP (ar 4 (6 * (vv a + 1) + f)) x = false from bi_eq.mp h45]; decide), rfl, rfl⟩)
    · refine t_ise (pc := 28) (text := "not OPEN, or no field to put a value into") rfl rfl (by decide) dX7_put_28 dX7_put_31 dX7_put_32 dX7_put_34 dX7_put_37 (Nat.le_of_ble_eq_true rfl) (Nat.le_of_ble_eq_true rfl) (Nat.le_of_ble_eq_true rfl) (Nat.le_of_ble_eq_true rfl) ?_
      exact Or.inl ⟨fun z => absurd z.2 (by rw [show canP ar R (vv a) f = false from bi_eq.mp h25]; decide), rfl, rfl⟩

def xq_handIn (ow : Nat → Nat) (w : List va_E) (R : Nat → List Int32) (vv : Nat → Nat) (ar : Nat → Nat → Int32) (a : Nat)  : aw_R → List va_E → Prop := fun r w' => (¬ (ar 7 a = 0 ∧ cntU (fun g => (decide (tyA ar (vv a) g ≠ 0) && decide (RA R (vv a) g = [])) && decide ((fun j => ar 10 (6 * a + j)) g = 0)) 0 6 = 0) ∧ r = (.inr "java/lang/IllegalStateException") ∧ w' = w) ∨ ((ar 7 a = 0 ∧ cntU (fun g => (decide (tyA ar (vv a) g ≠ 0) && decide (RA R (vv a) g = [])) && decide ((fun j => ar 10 (6 * a + j)) g = 0)) 0 6 = 0) ∧ r = .inl (some (.int (stC (refU (cmpC (RA R (vv a)) (ordO (RA R (vv a)) 6 0 []) (fun j => ar 9 (6 * a + j))) (RA R (vv a)) 6 4) (ar 11 a)))) ∧ AZ ow w w' vv a (stC (refU (cmpC (RA R (vv a)) (ordO (RA R (vv a)) 6 0 []) (fun j => ar 9 (6 * a + j))) (RA R (vv a)) 6 4) (ar 11 a)) (ar 11 a) (cmpC (RA R (vv a)) (ordO (RA R (vv a)) 6 0 []) (fun j => ar 9 (6 * a + j))) (hasC (ordO (RA R (vv a)) 6 0 []) (fun j => ar 10 (6 * a + j))))
set_option maxRecDepth 100000 in
set_option maxHeartbeats 4000000 in
theorem ax_handIn {G : aw_G} {ow : Nat → Nat} {w : List va_E} {tn vn an : Nat} {R : Nat → List Int32} {vv : Nat → Nat} {ar : Nat → Nat → Int32} (hC : CP ow w tn vn an R vv ar) (hI : SI tn vn an R vv ar) {a : Nat} (ha : a < an) : AM G fX7_handIn [.ref 0, .int (nI a)] w (xq_handIn ow w R vv ar a) := by
  refine AM_of (by decide) rfl rfl (Nat.le_of_ble_eq_true rfl) ?_
  show AW G fX7_handIn 2 12 w 0 [some (.ref 0), some (.int (nI a)), none] [] _
  obtain ⟨⟨hi1, hi2, hi3⟩, hiR, hiV, hiT, hiF, hiL, hiD, hiN⟩ := id hI
  obtain ⟨⟨tx, p9, k9, l9, lt9, st9, pn9, hS, hch, htx⟩, -, -, -, -, -⟩ := id hC
  have h00 := hS.1.2
  obtain ⟨b, fa, gd, hb, hf, hA, hM, hH⟩ := CP_at hC ha (hiV a ha)
  refine r_aload_n (pc := 0) dX7_handIn_0 rfl rfl ?_
  refine r_iload_n (pc := 1) dX7_handIn_1 rfl rfl ?_
  refine s_X7_154 (pc := 2) (kc' := 1) (ks' := 6) rfl rfl (ax_requireAnswer h00 hi3 ha hb) h00 (Nat.le_of_ble_eq_true rfl) (Nat.le_of_ble_eq_true rfl) (Nat.le_of_ble_eq_true rfl) (Nat.le_of_ble_eq_true rfl) (by exact (Nat.le_of_ble_eq_true rfl)) rfl (List.forall_mem_cons.mpr ⟨rfl, (List.forall_mem_cons.mpr ⟨rfl, fun _ h => nomatch h⟩)⟩) rfl dX7_handIn_2 aw_kt (aw_kq ?_)
  refine r_astore_n (pc := 5) dX7_handIn_5 rfl (Nat.le_of_ble_eq_true rfl) rfl ?_
  refine r_aload_n (pc := 6) dX7_handIn_6 rfl rfl ?_
  refine s_X7_158 (pc := 7) (kc' := 1) (ks' := 6) rfl rfl (aa_stateNow hA) hA.1.2 (Nat.le_of_ble_eq_true rfl) (Nat.le_of_ble_eq_true rfl) (Nat.le_of_ble_eq_true rfl) (Nat.le_of_ble_eq_true rfl) (by exact (Nat.le_of_ble_eq_true rfl)) rfl (List.forall_mem_cons.mpr ⟨rfl, fun _ h => nomatch h⟩) rfl dX7_handIn_7 aw_kt (aw_kq ?_)
  refine r_if_ne (pc := 10) (tgt := 20) dX7_handIn_10 (by decide) (fun h10 => ?_) (fun h10 => ?_)
  · refine t_ise (pc := 20) (text := "not OPEN, or a value is missing") rfl rfl (by decide) dX7_handIn_20 dX7_handIn_23 dX7_handIn_24 dX7_handIn_26 dX7_handIn_29 (Nat.le_of_ble_eq_true rfl) (Nat.le_of_ble_eq_true rfl) (Nat.le_of_ble_eq_true rfl) (Nat.le_of_ble_eq_true rfl) ?_
    exact Or.inl ⟨fun z => h10 z.1, rfl, rfl⟩
  · refine r_aload_n (pc := 13) dX7_handIn_13 rfl rfl ?_
    refine s_X7_175 (pc := 14) (kc' := 1) (ks' := 6) rfl rfl (aa_countMissing hA hM) hA.1.2 (Nat.le_of_ble_eq_true rfl) (Nat.le_of_ble_eq_true rfl) (Nat.le_of_ble_eq_true rfl) (Nat.le_of_ble_eq_true rfl) (by exact (Nat.le_of_ble_eq_true rfl)) rfl (List.forall_mem_cons.mpr ⟨rfl, fun _ h => nomatch h⟩) rfl dX7_handIn_14 aw_kt (aw_kq ?_)
    refine r_if_le (pc := 17) (tgt := 30) dX7_handIn_17 (by decide) (fun h17 => ?_) (fun h17 => ?_)
    · have hl9 := hiL a ha
      refine r_aload_n (pc := 30) dX7_handIn_30 rfl rfl ?_
      refine s_X7_180 (pc := 31) (kc' := 1) (ks' := 6) rfl rfl (aa_judge hA hM (by omega) (by decide) (by omega) (by omega) (due_ne hI (hiV a ha)) (fun k hk hn vl hl => by have h8 := (va_one (SI_wf hI (hiV a ha) (by omega) hn) (FO_some (hM.2.2.2.1 k (by omega)) (FO_get (hM.2.2.2.1 k (by omega)) hn).choose_spec).2.1 (due_ne hI (hiV a ha) k (by omega) hn) hl).2; rw [hiF (vv a) (hiV a ha) k (by omega) hn, dueF, if_pos hk] at h8; exact h8) hH hl9) hA.1.2 (Nat.le_of_ble_eq_true rfl) (Nat.le_of_ble_eq_true rfl) (Nat.le_of_ble_eq_true rfl) (Nat.le_of_ble_eq_true rfl) (by exact (Nat.le_of_ble_eq_true rfl)) rfl (List.forall_mem_cons.mpr ⟨rfl, fun _ h => nomatch h⟩) rfl dX7_handIn_31 aw_tA (aw_kA (fun w2 hk2 hA2 => ?_))
      refine r_aload_n (pc := 34) dX7_handIn_34 rfl rfl ?_
      refine s_X7_158 (pc := 35) (kc' := 1) (ks' := 6) rfl rfl (aa_stateNow hA2) hA2.1.2 (Nat.le_of_ble_eq_true rfl) (Nat.le_of_ble_eq_true rfl) (Nat.le_of_ble_eq_true rfl) (Nat.le_of_ble_eq_true rfl) (by exact (Nat.le_of_ble_eq_true rfl)) rfl (List.forall_mem_cons.mpr ⟨rfl, fun _ h => nomatch h⟩) rfl dX7_handIn_35 aw_kt (aw_kq ?_)
      refine r_iret (pc := 38) rfl rfl dX7_handIn_38 ?_
      have hz : cntU (fun g => (decide (tyA ar (vv a) g ≠ 0) && decide (RA R (vv a) g = [])) && decide ((fun j => ar 10 (6 * a + j)) g = 0)) 0 6 = 0 := by
        have h6 := cntU_le (fun g => (decide (tyA ar (vv a) g ≠ 0) && decide (RA R (vv a) g = [])) && decide ((fun j => ar 10 (6 * a + j)) g = 0)) 6 0
        have h8 := (nI_leI (a := cntU (fun g => (decide (tyA ar (vv a) g ≠ 0) && decide (RA R (vv a) g = [])) && decide ((fun j => ar 10 (6 * a + j)) g = 0)) 0 6) (b := 0) (by omega) (by decide)).mp h17
        omega
      exact Or.inr ⟨⟨h10, hz⟩, rfl, AZ_of hb hf hk2 (by simp) hA2⟩
    · refine t_ise (pc := 20) (text := "not OPEN, or a value is missing") rfl rfl (by decide) dX7_handIn_20 dX7_handIn_23 dX7_handIn_24 dX7_handIn_26 dX7_handIn_29 (Nat.le_of_ble_eq_true rfl) (Nat.le_of_ble_eq_true rfl) (Nat.le_of_ble_eq_true rfl) (Nat.le_of_ble_eq_true rfl) ?_
      exact Or.inl ⟨fun z => h17 (by rw [show cntU (fun g => (decide (tyA ar (vv a) g ≠ 0) && decide (RA R (vv a) g = [])) && decide ((fun j => ar 10 (6 * a + j)) g = 0)) 0 6 = 0 from z.2]; decide), rfl, rfl⟩

def xq_amend (ow : Nat → Nat) (w : List va_E) (R : Nat → List Int32) (vv : Nat → Nat) (ar : Nat → Nat → Int32) (a : Nat)  (f : Nat)  (x : Int32) : aw_R → List va_E → Prop := fun r w' => (¬ (ar 7 a = 3 ∧ canP ar R (vv a) f = true) ∧ r = (.inr "java/lang/IllegalStateException") ∧ w' = w) ∨ ((ar 7 a = 3 ∧ canP ar R (vv a) f = true) ∧ ¬ rightP (ar 4 (6 * (vv a + 1) + f)) x = true ∧ r = (.inr "java/lang/IllegalArgumentException") ∧ w' = w) ∨ ((ar 7 a = 3 ∧ canP ar R (vv a) f = true) ∧ rightP (ar 4 (6 * (vv a + 1) + f)) x = true ∧ r = .inl (some (.int (stC (refU (cmpC (RA R (vv a)) (ordO (RA R (vv a)) 6 0 []) (upd (fun j => ar 9 (6 * a + j)) f x)) (RA R (vv a)) 6 4) (ar 11 a &&& (b1 f ^^^ (-1)))))) ∧ AZ ow w w' vv a (stC (refU (cmpC (RA R (vv a)) (ordO (RA R (vv a)) 6 0 []) (upd (fun j => ar 9 (6 * a + j)) f x)) (RA R (vv a)) 6 4) (ar 11 a &&& (b1 f ^^^ (-1)))) ((ar 11 a &&& (b1 f ^^^ (-1)))) (cmpC (RA R (vv a)) (ordO (RA R (vv a)) 6 0 []) (upd (fun j => ar 9 (6 * a + j)) f x)) (hasC (ordO (RA R (vv a)) 6 0 []) (upd (fun j => ar 10 (6 * a + j)) f 1)))
set_option maxRecDepth 100000 in
set_option maxHeartbeats 4000000 in
theorem ax_amend {G : aw_G} {ow : Nat → Nat} {w : List va_E} {tn vn an : Nat} {R : Nat → List Int32} {vv : Nat → Nat} {ar : Nat → Nat → Int32} (hC : CP ow w tn vn an R vv ar) (hI : SI tn vn an R vv ar) {a : Nat} (ha : a < an) {f : Nat} (hf6 : f < 6) (x : Int32) : AM G fX7_amend [.ref 0, .int (nI a), .int (nI f), .int x] w (xq_amend ow w R vv ar a f x) := by
  refine AM_of (by decide) rfl rfl (Nat.le_of_ble_eq_true rfl) ?_
  show AW G fX7_amend 4 24 w 0 [some (.ref 0), some (.int (nI a)), some (.int (nI f)), some (.int x), none] [] _
  obtain ⟨⟨hi1, hi2, hi3⟩, hiR, hiV, hiT, hiF, hiL, hiD, hiN⟩ := id hI
  obtain ⟨⟨tx, p9, k9, l9, lt9, st9, pn9, hS, hch, htx⟩, -, -, -, -, -⟩ := id hC
  have h00 := hS.1.2
  obtain ⟨b, fa, gd, hb, hf, hA, hM, hH⟩ := CP_at hC ha (hiV a ha)
  refine r_aload_n (pc := 0) dX7_amend_0 rfl rfl ?_
  refine r_iload_n (pc := 1) dX7_amend_1 rfl rfl ?_
  refine s_X7_154 (pc := 2) (kc' := 3) (ks' := 18) rfl rfl (ax_requireAnswer h00 hi3 ha hb) h00 (Nat.le_of_ble_eq_true rfl) (Nat.le_of_ble_eq_true rfl) (Nat.le_of_ble_eq_true rfl) (Nat.le_of_ble_eq_true rfl) (by exact (Nat.le_of_ble_eq_true rfl)) rfl (List.forall_mem_cons.mpr ⟨rfl, (List.forall_mem_cons.mpr ⟨rfl, fun _ h => nomatch h⟩)⟩) rfl dX7_amend_2 aw_kt (aw_kq ?_)
  refine r_astore (pc := 5) dX7_amend_5 (Nat.le_of_ble_eq_true rfl) rfl ?_
  refine r_iload_n (pc := 7) dX7_amend_7 rfl rfl ?_
  refine s_X7_71 (pc := 8) (kc' := 2) (ks' := 12) rfl rfl (ac_requireField hf6)  (Nat.le_of_ble_eq_true rfl) (Nat.le_of_ble_eq_true rfl) (Nat.le_of_ble_eq_true rfl) (Nat.le_of_ble_eq_true rfl) (by exact (Nat.le_of_ble_eq_true rfl)) rfl (List.forall_mem_cons.mpr ⟨rfl, fun _ h => nomatch h⟩) rfl dX7_amend_8 aw_kt (aw_kv ?_)
  refine r_aload (pc := 11) dX7_amend_11 rfl ?_
  refine s_X7_158 (pc := 13) (kc' := 2) (ks' := 12) rfl rfl (aa_stateNow hA) hA.1.2 (Nat.le_of_ble_eq_true rfl) (Nat.le_of_ble_eq_true rfl) (Nat.le_of_ble_eq_true rfl) (Nat.le_of_ble_eq_true rfl) (by exact (Nat.le_of_ble_eq_true rfl)) rfl (List.forall_mem_cons.mpr ⟨rfl, fun _ h => nomatch h⟩) rfl dX7_amend_13 aw_kt (aw_kq ?_)
  refine r_iconst (pc := 16) (v := 3) dX7_amend_16 (by decide) ?_
  refine r_icmp_ne (pc := 17) (tgt := 29) dX7_amend_17 (by decide) (fun h17 => ?_) (fun h17 => ?_)
  · refine t_ise (pc := 29) (text := "not HELD, or no field to amend") rfl rfl (by decide) dX7_amend_29 dX7_amend_32 dX7_amend_33 dX7_amend_35 dX7_amend_38 (Nat.le_of_ble_eq_true rfl) (Nat.le_of_ble_eq_true rfl) (Nat.le_of_ble_eq_true rfl) (Nat.le_of_ble_eq_true rfl) ?_
    exact Or.inl ⟨fun z => h17 z.1, rfl, rfl⟩
  · refine r_aload (pc := 20) dX7_amend_20 rfl ?_
    refine r_iload_n (pc := 22) dX7_amend_22 rfl rfl ?_
    refine s_X7_161 (pc := 23) (kc' := 2) (ks' := 12) rfl rfl (aa_isPutField hA hM hf6) hA.1.2 (Nat.le_of_ble_eq_true rfl) (Nat.le_of_ble_eq_true rfl) (Nat.le_of_ble_eq_true rfl) (Nat.le_of_ble_eq_true rfl) (by exact (Nat.le_of_ble_eq_true rfl)) rfl (List.forall_mem_cons.mpr ⟨rfl, (List.forall_mem_cons.mpr ⟨rfl, fun _ h => nomatch h⟩)⟩) rfl dX7_amend_23 aw_kt (aw_kq ?_)
    refine r_if_ne (pc := 26) (tgt := 39) dX7_amend_26 (by decide) (fun h26 => ?_) (fun h26 => ?_)
    · have hc9 : canP ar R (vv a) f = true := bi_ne.mp h26
      have hty3 : tyA ar (vv a) f = 1 ∨ tyA ar (vv a) f = 2 ∨ tyA ar (vv a) f = 3 := by
        rcases ty_ne1 hI (hiV a ha) hf6 with e | e
        · unfold canP at hc9
          rw [Bool.and_eq_true] at hc9
          exact absurd e (of_decide_eq_true hc9.1)
        · exact e
      refine r_aload (pc := 39) dX7_amend_39 rfl ?_
      refine r_iload_n (pc := 41) dX7_amend_41 rfl rfl ?_
      refine r_iload_n (pc := 42) dX7_amend_42 rfl rfl ?_
      refine s_X7_166 (pc := 43) (kc' := 2) (ks' := 12) rfl rfl (aa_accepts hA hM hf6 x hty3) hA.1.2 (Nat.le_of_ble_eq_true rfl) (Nat.le_of_ble_eq_true rfl) (Nat.le_of_ble_eq_true rfl) (Nat.le_of_ble_eq_true rfl) (by exact (Nat.le_of_ble_eq_true rfl)) rfl (List.forall_mem_cons.mpr ⟨rfl, (List.forall_mem_cons.mpr ⟨rfl, (List.forall_mem_cons.mpr ⟨rfl, fun _ h => nomatch h⟩)⟩)⟩) rfl dX7_amend_43 aw_kt (aw_kq ?_)
      refine r_if_ne (pc := 46) (tgt := 59) dX7_amend_46 (by decide) (fun h46 => ?_) (fun h46 => ?_)
      · refine r_aload (pc := 59) dX7_amend_59 rfl ?_
        refine r_iload_n (pc := 61) dX7_amend_61 rfl rfl ?_
        refine r_iload_n (pc := 62) dX7_amend_62 rfl rfl ?_
        refine s_X7_172 (pc := 63) (kc' := 2) (ks' := 12) rfl rfl (aa_write hA (by omega) hf6 x) hA.1.2 (Nat.le_of_ble_eq_true rfl) (Nat.le_of_ble_eq_true rfl) (Nat.le_of_ble_eq_true rfl) (Nat.le_of_ble_eq_true rfl) (by exact (Nat.le_of_ble_eq_true rfl)) rfl (List.forall_mem_cons.mpr ⟨rfl, (List.forall_mem_cons.mpr ⟨rfl, (List.forall_mem_cons.mpr ⟨rfl, fun _ h => nomatch h⟩)⟩)⟩) rfl dX7_amend_63 aw_tA (aw_kA (fun w2 hk2 hA2 => ?_))
        have hM2 := FM_kp hM hk2 n0a n0a
        have hH2 := HD_kp hH hk2 n0a
        refine r_aload (pc := 66) dX7_amend_66 rfl ?_
        refine r_iload_n (pc := 68) dX7_amend_68 rfl rfl ?_
        refine s_X7_216 (pc := 69) (kc' := 2) (ks' := 12) rfl rfl (aa_release hA2 (by omega) f) hA2.1.2 (Nat.le_of_ble_eq_true rfl) (Nat.le_of_ble_eq_true rfl) (Nat.le_of_ble_eq_true rfl) (Nat.le_of_ble_eq_true rfl) (by exact (Nat.le_of_ble_eq_true rfl)) rfl (List.forall_mem_cons.mpr ⟨rfl, (List.forall_mem_cons.mpr ⟨rfl, fun _ h => nomatch h⟩)⟩) rfl dX7_amend_69 aw_tA (aw_kA (fun w3 hk3 hA3 => ?_))
        have hM3 := FM_kp hM2 hk3 n0a n0a
        have hH3 := HD_kp hH2 hk3 n0a
        have hl9 := upd_fl (hiL a ha) hf6 (x := x) (fl_right (bi_ne.mp h46))
        refine r_aload (pc := 72) dX7_amend_72 rfl ?_
        refine s_X7_180 (pc := 74) (kc' := 2) (ks' := 12) rfl rfl (aa_judge hA3 hM3 (by omega) (by decide) (by omega) (by omega) (due_ne hI (hiV a ha)) (fun k hk hn vl hl => by have h8 := (va_one (SI_wf hI (hiV a ha) (by omega) hn) (FO_some (hM3.2.2.2.1 k (by omega)) (FO_get (hM3.2.2.2.1 k (by omega)) hn).choose_spec).2.1 (due_ne hI (hiV a ha) k (by omega) hn) hl).2; rw [hiF (vv a) (hiV a ha) k (by omega) hn, dueF, if_pos hk] at h8; exact h8) hH3 hl9) hA3.1.2 (Nat.le_of_ble_eq_true rfl) (Nat.le_of_ble_eq_true rfl) (Nat.le_of_ble_eq_true rfl) (Nat.le_of_ble_eq_true rfl) (by exact (Nat.le_of_ble_eq_true rfl)) rfl (List.forall_mem_cons.mpr ⟨rfl, fun _ h => nomatch h⟩) rfl dX7_amend_74 aw_tA (aw_kA (fun w4 hk4 hA4 => ?_))
        refine r_aload (pc := 77) dX7_amend_77 rfl ?_
        refine s_X7_158 (pc := 79) (kc' := 2) (ks' := 12) rfl rfl (aa_stateNow hA4) hA4.1.2 (Nat.le_of_ble_eq_true rfl) (Nat.le_of_ble_eq_true rfl) (Nat.le_of_ble_eq_true rfl) (Nat.le_of_ble_eq_true rfl) (by exact (Nat.le_of_ble_eq_true rfl)) rfl (List.forall_mem_cons.mpr ⟨rfl, fun _ h => nomatch h⟩) rfl dX7_amend_79 aw_kt (aw_kq ?_)
        refine r_iret (pc := 82) rfl rfl dX7_amend_82 ?_
        exact Or.inr (Or.inr ⟨⟨h17, hc9⟩, bi_ne.mp h46, rfl, AZ_of hb hf (kp_tr (kp_mono hk2 (by simp)) (kp_tr (kp_mono hk3 (by simp)) (kp_mono hk4 (by simp)))) (fun _ z => z) hA4⟩)
      · refine t_iae (pc := 49) (text := "the value is out of range") rfl rfl (by decide) dX7_amend_49 dX7_amend_52 dX7_amend_53 dX7_amend_55 dX7_amend_58 (Nat.le_of_ble_eq_true rfl) (Nat.le_of_ble_eq_true rfl) (Nat.le_of_ble_eq_true rfl) (Nat.le_of_ble_eq_true rfl) ?_
        exact Or.inr (Or.inl ⟨⟨h17, hc9⟩, fun z => absurd z (by rw [show rightP (ar 4 (6 * (vv a + 1) + f)) x = false from bi_eq.mp h46]; decide), rfl, rfl⟩)
    · refine t_ise (pc := 29) (text := "not HELD, or no field to amend") rfl rfl (by decide) dX7_amend_29 dX7_amend_32 dX7_amend_33 dX7_amend_35 dX7_amend_38 (Nat.le_of_ble_eq_true rfl) (Nat.le_of_ble_eq_true rfl) (Nat.le_of_ble_eq_true rfl) (Nat.le_of_ble_eq_true rfl) ?_
      exact Or.inl ⟨fun z => absurd z.2 (by rw [show canP ar R (vv a) f = false from bi_eq.mp h26]; decide), rfl, rfl⟩

set_option maxRecDepth 100000 in
set_option maxHeartbeats 4000000 in
theorem ax_typeIn {G : aw_G} {ow : Nat → Nat} {w : List va_E} {tn vn an : Nat} {R : Nat → List Int32} {vv : Nat → Nat} {ar : Nat → Nat → Int32} (hC : CP ow w tn vn an R vv ar) (hI : SI tn vn an R vv ar) {v : Nat} (hv : v < vn) {f : Nat} (hf6 : f < 6) : AM G fX7_typeIn [.ref 0, .int (nI v), .int (nI f)] w (qx (.inl (some (.int (ar 4 (6 * (v + 1) + f))))) w) := by
  refine AM_of (by decide) rfl rfl (Nat.le_of_ble_eq_true rfl) ?_
  show AW G fX7_typeIn 2 12 w 0 [some (.ref 0), some (.int (nI v)), some (.int (nI f)), none] [] _
  obtain ⟨⟨hi1, hi2, hi3⟩, hiR, hiV, hiT, hiF, hiL, hiD, hiN⟩ := id hI
  obtain ⟨⟨tx, p9, k9, l9, lt9, st9, pn9, hS, hch, htx⟩, -, -, -, -, -⟩ := id hC
  have h00 := hS.1.2
  obtain ⟨va, hq, ⟨gd, hM⟩, hH⟩ := hC.2.2.2.2.1 v hv
  refine r_aload_n (pc := 0) dX7_typeIn_0 rfl rfl ?_
  refine r_iload_n (pc := 1) dX7_typeIn_1 rfl rfl ?_
  refine s_X7_130 (pc := 2) (kc' := 1) (ks' := 6) rfl rfl (ax_requireVersion h00 hi2 hv hq) h00 (Nat.le_of_ble_eq_true rfl) (Nat.le_of_ble_eq_true rfl) (Nat.le_of_ble_eq_true rfl) (Nat.le_of_ble_eq_true rfl) (by exact (Nat.le_of_ble_eq_true rfl)) rfl (List.forall_mem_cons.mpr ⟨rfl, (List.forall_mem_cons.mpr ⟨rfl, fun _ h => nomatch h⟩)⟩) rfl dX7_typeIn_2 aw_kt (aw_kq ?_)
  refine r_astore_n (pc := 5) dX7_typeIn_5 rfl (Nat.le_of_ble_eq_true rfl) rfl ?_
  refine r_iload_n (pc := 6) dX7_typeIn_6 rfl rfl ?_
  refine s_X7_71 (pc := 7) (kc' := 0) (ks' := 0) rfl rfl (ac_requireField hf6)  (Nat.le_of_ble_eq_true rfl) (Nat.le_of_ble_eq_true rfl) (Nat.le_of_ble_eq_true rfl) (Nat.le_of_ble_eq_true rfl) (by exact (Nat.le_of_ble_eq_true rfl)) rfl (List.forall_mem_cons.mpr ⟨rfl, fun _ h => nomatch h⟩) rfl dX7_typeIn_7 aw_kt (aw_kv ?_)
  refine r_aload_n (pc := 10) dX7_typeIn_10 rfl rfl ?_
  refine r_iload_n (pc := 11) dX7_typeIn_11 rfl rfl ?_
  refine s_X7_134 (pc := 12) (kc' := 0) (ks' := 0) rfl rfl (ac_typeOfField hM hf6) hM.1.2 (Nat.le_of_ble_eq_true rfl) (Nat.le_of_ble_eq_true rfl) (Nat.le_of_ble_eq_true rfl) (Nat.le_of_ble_eq_true rfl) (by exact (Nat.le_of_ble_eq_true rfl)) rfl (List.forall_mem_cons.mpr ⟨rfl, (List.forall_mem_cons.mpr ⟨rfl, fun _ h => nomatch h⟩)⟩) rfl dX7_typeIn_12 aw_kt (aw_kq ?_)
  refine r_iret (pc := 15) rfl rfl dX7_typeIn_15 ?_
  exact ⟨rfl, rfl⟩

set_option maxRecDepth 100000 in
set_option maxHeartbeats 4000000 in
theorem ax_order {G : aw_G} {ow : Nat → Nat} {w : List va_E} {tn vn an : Nat} {R : Nat → List Int32} {vv : Nat → Nat} {ar : Nat → Nat → Int32} (hC : CP ow w tn vn an R vv ar) (hI : SI tn vn an R vv ar) {v : Nat} (hv : v < vn) {f : Int32} (hf0 : 0 ≤ f) : AM G fX7_order [.ref 0, .int (nI v), .int f] w (qx (.inl (some (.int ((((ordO (RA R v) 6 0 [])[f.toNatClampNeg]?).map nI).getD (-1))))) w) := by
  refine AM_of (by decide) rfl rfl (Nat.le_of_ble_eq_true rfl) ?_
  show AW G fX7_order 2 12 w 0 [some (.ref 0), some (.int (nI v)), some (.int f), none] [] _
  obtain ⟨⟨hi1, hi2, hi3⟩, hiR, hiV, hiT, hiF, hiL, hiD, hiN⟩ := id hI
  obtain ⟨⟨tx, p9, k9, l9, lt9, st9, pn9, hS, hch, htx⟩, -, -, -, -, -⟩ := id hC
  have h00 := hS.1.2
  obtain ⟨va, hq, ⟨gd, hM⟩, hH⟩ := hC.2.2.2.2.1 v hv
  refine r_aload_n (pc := 0) dX7_order_0 rfl rfl ?_
  refine r_iload_n (pc := 1) dX7_order_1 rfl rfl ?_
  refine s_X7_130 (pc := 2) (kc' := 1) (ks' := 6) rfl rfl (ax_requireVersion h00 hi2 hv hq) h00 (Nat.le_of_ble_eq_true rfl) (Nat.le_of_ble_eq_true rfl) (Nat.le_of_ble_eq_true rfl) (Nat.le_of_ble_eq_true rfl) (by exact (Nat.le_of_ble_eq_true rfl)) rfl (List.forall_mem_cons.mpr ⟨rfl, (List.forall_mem_cons.mpr ⟨rfl, fun _ h => nomatch h⟩)⟩) rfl dX7_order_2 aw_kt (aw_kq ?_)
  refine r_astore_n (pc := 5) dX7_order_5 rfl (Nat.le_of_ble_eq_true rfl) rfl ?_
  refine r_iload_n (pc := 6) dX7_order_6 rfl rfl ?_
  refine s_X7_138 (pc := 7) (kc' := 0) (ks' := 0) rfl rfl (ac_requirePlace hf0)  (Nat.le_of_ble_eq_true rfl) (Nat.le_of_ble_eq_true rfl) (Nat.le_of_ble_eq_true rfl) (Nat.le_of_ble_eq_true rfl) (by exact (Nat.le_of_ble_eq_true rfl)) rfl (List.forall_mem_cons.mpr ⟨rfl, fun _ h => nomatch h⟩) rfl dX7_order_7 aw_kt (aw_kv ?_)
  refine r_aload_n (pc := 10) dX7_order_10 rfl rfl ?_
  refine r_iload_n (pc := 11) dX7_order_11 rfl rfl ?_
  refine s_X7_141 (pc := 12) (kc' := 0) (ks' := 0) rfl rfl (ac_toldAt hM hH (ordO_len 6 0 []) hf0) hM.1.2 (Nat.le_of_ble_eq_true rfl) (Nat.le_of_ble_eq_true rfl) (Nat.le_of_ble_eq_true rfl) (Nat.le_of_ble_eq_true rfl) (by exact (Nat.le_of_ble_eq_true rfl)) rfl (List.forall_mem_cons.mpr ⟨rfl, (List.forall_mem_cons.mpr ⟨rfl, fun _ h => nomatch h⟩)⟩) rfl dX7_order_12 aw_kt (aw_kq ?_)
  refine r_iret (pc := 15) rfl rfl dX7_order_15 ?_
  exact ⟨rfl, rfl⟩

set_option maxRecDepth 100000 in
set_option maxHeartbeats 4000000 in
theorem ax_plain {G : aw_G} {ow : Nat → Nat} {w : List va_E} {tn vn an : Nat} {R : Nat → List Int32} {vv : Nat → Nat} {ar : Nat → Nat → Int32} (hC : CP ow w tn vn an R vv ar) (hI : SI tn vn an R vv ar) {v : Nat} (hv : v < vn) {f : Nat} (hf : f < 10) {p : Int32} (hp0 : 0 ≤ p) : AM G fX7_plain [.ref 0, .int (nI v), .int (nI f), .int p] w (qx (.inl (some (.int (plA (R (10 * (v + 1) + f)) p)))) w) := by
  refine AM_of (by decide) rfl rfl (Nat.le_of_ble_eq_true rfl) ?_
  show AW G fX7_plain 3 18 w 0 [some (.ref 0), some (.int (nI v)), some (.int (nI f)), some (.int p), none, none] [] _
  obtain ⟨⟨hi1, hi2, hi3⟩, hiR, hiV, hiT, hiF, hiL, hiD, hiN⟩ := id hI
  obtain ⟨⟨tx, p9, k9, l9, lt9, st9, pn9, hS, hch, htx⟩, -, -, -, -, -⟩ := id hC
  have h00 := hS.1.2
  obtain ⟨va, hq, ⟨gd, hM⟩, hH⟩ := hC.2.2.2.2.1 v hv
  refine r_aload_n (pc := 0) dX7_plain_0 rfl rfl ?_
  refine r_iload_n (pc := 1) dX7_plain_1 rfl rfl ?_
  refine s_X7_130 (pc := 2) (kc' := 2) (ks' := 12) rfl rfl (ax_requireVersion h00 hi2 hv hq) h00 (Nat.le_of_ble_eq_true rfl) (Nat.le_of_ble_eq_true rfl) (Nat.le_of_ble_eq_true rfl) (Nat.le_of_ble_eq_true rfl) (by exact (Nat.le_of_ble_eq_true rfl)) rfl (List.forall_mem_cons.mpr ⟨rfl, (List.forall_mem_cons.mpr ⟨rfl, fun _ h => nomatch h⟩)⟩) rfl dX7_plain_2 aw_kt (aw_kq ?_)
  refine r_astore (pc := 5) dX7_plain_5 (Nat.le_of_ble_eq_true rfl) rfl ?_
  refine r_iload_n (pc := 7) dX7_plain_7 rfl rfl ?_
  refine s_X7_87 (pc := 8) (kc' := 1) (ks' := 6) rfl rfl (ac_requireFormula hf)  (Nat.le_of_ble_eq_true rfl) (Nat.le_of_ble_eq_true rfl) (Nat.le_of_ble_eq_true rfl) (Nat.le_of_ble_eq_true rfl) (by exact (Nat.le_of_ble_eq_true rfl)) rfl (List.forall_mem_cons.mpr ⟨rfl, fun _ h => nomatch h⟩) rfl dX7_plain_8 aw_kt (aw_kv ?_)
  refine r_iload_n (pc := 11) dX7_plain_11 rfl rfl ?_
  refine s_X7_138 (pc := 12) (kc' := 0) (ks' := 0) rfl rfl (ac_requirePlace hp0)  (Nat.le_of_ble_eq_true rfl) (Nat.le_of_ble_eq_true rfl) (Nat.le_of_ble_eq_true rfl) (Nat.le_of_ble_eq_true rfl) (by exact (Nat.le_of_ble_eq_true rfl)) rfl (List.forall_mem_cons.mpr ⟨rfl, fun _ h => nomatch h⟩) rfl dX7_plain_12 aw_kt (aw_kv ?_)
  refine r_aload (pc := 15) dX7_plain_15 rfl ?_
  refine r_iload_n (pc := 17) dX7_plain_17 rfl rfl ?_
  refine s_X7_108 (pc := 18) (kc' := 0) (ks' := 0) rfl rfl (ac_formulaAt hM hf) hM.1.2 (Nat.le_of_ble_eq_true rfl) (Nat.le_of_ble_eq_true rfl) (Nat.le_of_ble_eq_true rfl) (Nat.le_of_ble_eq_true rfl) (by exact (Nat.le_of_ble_eq_true rfl)) rfl (List.forall_mem_cons.mpr ⟨rfl, (List.forall_mem_cons.mpr ⟨rfl, fun _ h => nomatch h⟩)⟩) rfl dX7_plain_18 aw_kt (aw_kq ?_)
  have hO := hM.2.2.2.1 f hf
  cases hg : gd f with
  | none =>
    rw [hg] at hO
    refine r_astoreN (pc := 21) dX7_plain_21 (Nat.le_of_ble_eq_true rfl) rfl ?_
    refine r_aloadN (pc := 23) dX7_plain_23 rfl ?_
    refine r_ifnonnullN (pc := 25) dX7_plain_25 ?_
    refine r_iconst (pc := 28) (v := -1) dX7_plain_28 (by decide) ?_
    refine r_goto (pc := 29) (tgt := 38) dX7_plain_29 (by decide) ?_
    refine r_iret (pc := 38) rfl rfl dX7_plain_38 ?_
    exact ⟨by rw [plA, if_pos (show R (10 * (v + 1) + f) = [] from hO)], rfl⟩
  | some x =>
    rw [hg] at hO
    obtain ⟨f2, hp1, hp2⟩ := hO.2.2.2.2.2.1
    refine r_astore (pc := 21) dX7_plain_21 (Nat.le_of_ble_eq_true rfl) rfl ?_
    refine r_aload (pc := 23) dX7_plain_23 rfl ?_
    refine r_ifnonnull (pc := 25) (tgt := 32) dX7_plain_25 (by decide) ?_
    refine r_aload (pc := 32) dX7_plain_32 rfl ?_
    refine r_iload_n (pc := 34) dX7_plain_34 rfl rfl ?_
    refine s_X7_144 (pc := 35) (kc' := 0) (ks' := 0) rfl rfl (ac_plainSign hO.2.2.2.1.2 hp1.2 hO.2.2.1 p hp0) hO.2.2.2.1.2 (Nat.le_of_ble_eq_true rfl) (Nat.le_of_ble_eq_true rfl) (Nat.le_of_ble_eq_true rfl) (Nat.le_of_ble_eq_true rfl) (by exact (Nat.le_of_ble_eq_true rfl)) rfl (List.forall_mem_cons.mpr ⟨rfl, (List.forall_mem_cons.mpr ⟨rfl, fun _ h => nomatch h⟩)⟩) rfl dX7_plain_35 aw_kt (aw_kq ?_)
    refine r_iret (pc := 38) rfl rfl dX7_plain_38 ?_
    refine ⟨?_, rfl⟩
    have hpe : (if p.toNatClampNeg < (plS (RA R v f)).length then f2 p.toNatClampNeg else -1) = plA (R (10 * (v + 1) + f)) p := by
      rw [plA, if_neg (show ¬ R (10 * (v + 1) + f) = [] from wfr_ne hO.1)]
      by_cases h : p.toNatClampNeg < (plS (RA R v f)).length
      · rw [if_pos h, hp2 p.toNatClampNeg _ (List.getElem?_eq_getElem h), show (plS (R (10 * (v + 1) + f)))[p.toNatClampNeg]? = _ from List.getElem?_eq_getElem h]
        rfl
      · rw [if_neg h, List.getElem?_eq_none (show (plS (R (10 * (v + 1) + f))).length ≤ p.toNatClampNeg from Nat.le_of_not_lt h)]
        rfl
    rw [hpe]

set_option maxRecDepth 100000 in
set_option maxHeartbeats 4000000 in
theorem ax_plainX {G : aw_G} {ow : Nat → Nat} {w : List va_E} {tn vn an : Nat} {R : Nat → List Int32} {vv : Nat → Nat} {ar : Nat → Nat → Int32} (hC : CP ow w tn vn an R vv ar) (hI : SI tn vn an R vv ar) {x f p : Int32} (hb : ¬ ((0 ≤ x ∧ x ≤ nI vn - 1) ∧ (0 ≤ f ∧ f ≤ 9) ∧ 0 ≤ p)) : AM G fX7_plain [.ref 0, .int x, .int f, .int p] w (qx (.inr "java/lang/IndexOutOfBoundsException") w) := by
  refine AM_of (by decide) rfl rfl (Nat.le_of_ble_eq_true rfl) ?_
  show AW G fX7_plain 3 18 w 0 [some (.ref 0), some (.int x), some (.int f), some (.int p), none, none] [] _
  obtain ⟨⟨hi1, hi2, hi3⟩, hiR, hiV, hiT, hiF, hiL, hiD, hiN⟩ := id hI
  obtain ⟨⟨tx, p9, k9, l9, lt9, st9, pn9, hS, hch, htx⟩, -, -, -, -, -⟩ := id hC
  have h00 := hS.1.2
  
  refine r_aload_n (pc := 0) dX7_plain_0 rfl rfl ?_
  refine r_iload_n (pc := 1) dX7_plain_1 rfl rfl ?_
  by_cases hx : 0 ≤ x ∧ x ≤ nI vn - 1
  · obtain ⟨a, ha, rfl⟩ := inV_nat (by omega) hx
    obtain ⟨b, hq, -⟩ := hC.2.2.2.2.1 a ha
    by_cases hy : 0 ≤ f ∧ f ≤ 9
    · obtain ⟨f9, hf, rfl⟩ := inG_nat hy
      refine s_X7_130 (pc := 2) (kc' := 2) (ks' := 12) rfl rfl (ax_requireVersion h00 hi2 ha hq) h00 (Nat.le_of_ble_eq_true rfl) (Nat.le_of_ble_eq_true rfl) (Nat.le_of_ble_eq_true rfl) (Nat.le_of_ble_eq_true rfl) (by exact (Nat.le_of_ble_eq_true rfl)) rfl (List.forall_mem_cons.mpr ⟨rfl, (List.forall_mem_cons.mpr ⟨rfl, fun _ h => nomatch h⟩)⟩) rfl dX7_plain_2 aw_kt (aw_kq ?_)
      refine r_astore (pc := 5) dX7_plain_5 (Nat.le_of_ble_eq_true rfl) rfl ?_
      refine r_iload_n (pc := 7) dX7_plain_7 rfl rfl ?_
      refine s_X7_87 (pc := 8) (kc' := 1) (ks' := 6) rfl rfl (ac_requireFormula hf)  (Nat.le_of_ble_eq_true rfl) (Nat.le_of_ble_eq_true rfl) (Nat.le_of_ble_eq_true rfl) (Nat.le_of_ble_eq_true rfl) (by exact (Nat.le_of_ble_eq_true rfl)) rfl (List.forall_mem_cons.mpr ⟨rfl, fun _ h => nomatch h⟩) rfl dX7_plain_8 aw_kt (aw_kv ?_)
      refine r_iload_n (pc := 11) dX7_plain_11 rfl rfl ?_
      refine s_X7_138 (pc := 12) (kc' := 0) (ks' := 0) rfl rfl (ac_requirePlaceX (fun z => hb ⟨hx, hy, z⟩))  (Nat.le_of_ble_eq_true rfl) (Nat.le_of_ble_eq_true rfl) (Nat.le_of_ble_eq_true rfl) (Nat.le_of_ble_eq_true rfl) (by exact (Nat.le_of_ble_eq_true rfl)) rfl (List.forall_mem_cons.mpr ⟨rfl, fun _ h => nomatch h⟩) rfl dX7_plain_12 (aw_tX ⟨rfl, rfl⟩) aw_kX
    · skip
      refine s_X7_130 (pc := 2) (kc' := 2) (ks' := 12) rfl rfl (ax_requireVersion h00 hi2 ha hq) h00 (Nat.le_of_ble_eq_true rfl) (Nat.le_of_ble_eq_true rfl) (Nat.le_of_ble_eq_true rfl) (Nat.le_of_ble_eq_true rfl) (by exact (Nat.le_of_ble_eq_true rfl)) rfl (List.forall_mem_cons.mpr ⟨rfl, (List.forall_mem_cons.mpr ⟨rfl, fun _ h => nomatch h⟩)⟩) rfl dX7_plain_2 aw_kt (aw_kq ?_)
      refine r_astore (pc := 5) dX7_plain_5 (Nat.le_of_ble_eq_true rfl) rfl ?_
      refine r_iload_n (pc := 7) dX7_plain_7 rfl rfl ?_
      refine s_X7_87 (pc := 8) (kc' := 1) (ks' := 6) rfl rfl (ac_requireFormulaX hy)  (Nat.le_of_ble_eq_true rfl) (Nat.le_of_ble_eq_true rfl) (Nat.le_of_ble_eq_true rfl) (Nat.le_of_ble_eq_true rfl) (by exact (Nat.le_of_ble_eq_true rfl)) rfl (List.forall_mem_cons.mpr ⟨rfl, fun _ h => nomatch h⟩) rfl dX7_plain_8 (aw_tX ⟨rfl, rfl⟩) aw_kX
  · skip
    refine s_X7_130 (pc := 2) (kc' := 2) (ks' := 12) rfl rfl (ax_requireVersionX h00 hi2 hx) h00 (Nat.le_of_ble_eq_true rfl) (Nat.le_of_ble_eq_true rfl) (Nat.le_of_ble_eq_true rfl) (Nat.le_of_ble_eq_true rfl) (by exact (Nat.le_of_ble_eq_true rfl)) rfl (List.forall_mem_cons.mpr ⟨rfl, (List.forall_mem_cons.mpr ⟨rfl, fun _ h => nomatch h⟩)⟩) rfl dX7_plain_2 (aw_tX ⟨rfl, rfl⟩) aw_kX

end S28
