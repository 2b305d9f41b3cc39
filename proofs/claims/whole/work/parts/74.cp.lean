/-! ===== the class's whole picture, at the reference's state ===== -/
def SRC (ow : Nat → Nat) (w : List va_E) (c0 : va_E) (tx : Nat → Int32) (tn p k l : Nat) (lt : Int32) (st pn : Nat → Int32) : Prop :=
  cl ow w 5 0 c0 ∧ cl ow w 5 1 (.inr (3, [.ref 2, .int (nI tn), .int (nI p), .ref 3, .int (nI k), .ref 4, .int (nI l), .int lt])) ∧ cl ow w 5 2 (.inl (2, 40, .inl tx)) ∧ cl ow w 5 3 (.inl (0, 40, .inl st)) ∧ cl ow w 5 4 (.inl (0, 80, .inl pn))
def tyA (ar : Nat → Nat → Int32) (v : Nat) : Nat → Int32 := fun j => ar 4 (6 * (v + 1) + j)
def RA (R : Nat → List Int32) (v : Nat) : Nat → List Int32 := fun k => R (10 * (v + 1) + k)
def PBq (w : List va_E) (v a : Nat) : Prop := ∃ pv : Nat → Option Nat, w[10]? = some (.inl (4, 10, .inr (.inr (.inr (.inr pv))))) ∧ pv v = some a
def ABq (w : List va_E) (a b : Nat) : Prop := ∃ bg : Nat → Option Nat, w[11]? = some (.inl (6, 20, .inr (.inr (.inr (.inr bg))))) ∧ bg a = some b
def VF (ow : Nat → Nat) (w : List va_E) (a : Nat) (ty : Nat → Int32) (R6 : Nat → List Int32) : Prop := (∃ gd : Nat → Option Nat, FM ow w 0 a (a + 1) (a + 2) (a + 3) (a + 4) ty R6 gd) ∧ HD ow w 0 (a + 4) (ordO R6 6 0 [])
def CP (ow : Nat → Nat) (w : List va_E) (tn vn an : Nat) (R : Nat → List Int32) (vv : Nat → Nat) (ar : Nat → Nat → Int32) : Prop :=
  (∃ (tx : Nat → Int32) (p k l : Nat) (lt : Int32) (st pn : Nat → Int32), SRC ow w (c0W vn an) tx tn p k l lt st pn ∧ chOK tx tn ∧ ∀ j, j < tn → tx j = ar 0 j) ∧
  (∃ gd : Nat → Option Nat, FM ow w 2 5 8 9 6 7 (ar 4) R gd) ∧
  (∃ pv : Nat → Option Nat, cl ow w 3 10 (.inl (4, 10, .inr (.inr (.inr (.inr pv)))))) ∧
  (∃ bg : Nat → Option Nat, cl ow w 4 11 (.inl (6, 20, .inr (.inr (.inr (.inr bg)))))) ∧
  (∀ v, v < vn → ∃ a, PBq w v a ∧ VF ow w a (tyA ar v) (RA R v)) ∧
  ∀ a, a < an → ∃ b fa, ABq w a b ∧ PBq w (vv a) fa ∧ AN ow w (10 + a) b (vv a) fa (ar 7 a) (ar 11 a) (fun j => ar 9 (6 * a + j)) (fun j => ar 10 (6 * a + j))
section CPs
variable {ow ow' : Nat → Nat} {ts : List Nat} {w w' : List va_E} {tn vn an : Nat} {R R' : Nat → List Int32} {vv : Nat → Nat} {ar ar' : Nat → Nat → Int32}
theorem SRC_kp {c0 : va_E} {tx : Nat → Int32} {p k l : Nat} {lt : Int32} {st pn : Nat → Int32} (h : SRC ow w c0 tx tn p k l lt st pn) (hk : kp ow ow' ts w w') (h5 : 5 ∉ ts) : SRC ow' w' c0 tx tn p k l lt st pn :=
  ⟨cl_kp h.1 hk h5, cl_kp h.2.1 hk h5, cl_kp h.2.2.1 hk h5, cl_kp h.2.2.2.1 hk h5, cl_kp h.2.2.2.2 hk h5⟩
theorem SRC_sW {c0 : va_E} {tx : Nat → Int32} {p k l : Nat} {lt : Int32} {st pn : Nat → Int32} (h : SRC ow w c0 tx tn p k l lt st pn) : w = sW c0 tx tn p k l lt st pn (w.drop 5) := by
  obtain ⟨h0, h1, h2, h3, h4⟩ := h
  match w, h0.2, h1.2, h2.2, h3.2, h4.2 with
  | a :: b :: c :: d :: e :: tl, z0, z1, z2, z3, z4 =>
    cases z0; cases z1; cases z2; cases z3; cases z4
    rfl
theorem SRC_of {c0 c9 : va_E} {tx tx' : Nat → Int32} {tn' p k l p' k' l' : Nat} {lt lt' : Int32} {st pn st' pn' : Nat → Int32} {tl : List va_E} (h : SRC ow (sW c9 tx' tn' p' k' l' lt' st' pn' tl) c9 tx' tn' p' k' l' lt' st' pn') : SRC ow (sW c0 tx tn p k l lt st pn tl) c0 tx tn p k l lt st pn :=
  ⟨⟨h.1.1, rfl⟩, ⟨h.2.1.1, rfl⟩, ⟨h.2.2.1.1, rfl⟩, ⟨h.2.2.2.1.1, rfl⟩, ⟨h.2.2.2.2.1, rfl⟩⟩
/-- the source's cells alone have changed -/
theorem kp_sW {c0 c9 : va_E} {tx tx' : Nat → Int32} {tn' p k l p' k' l' : Nat} {lt lt' : Int32} {st pn st' pn' : Nat → Int32} {tl : List va_E} (h : SRC ow (sW c9 tx' tn' p' k' l' lt' st' pn' tl) c9 tx' tn' p' k' l' lt' st' pn') : kp ow ow [5] (sW c9 tx' tn' p' k' l' lt' st' pn' tl) (sW c0 tx tn p k l lt st pn tl) := by
  refine ⟨Nat.le_refl _, fun _ _ => rfl, fun i e ho hw => ?_, fun i n g ho hw => ⟨g, ?_⟩⟩ <;>
  · match i, ho, hw with
    | 0, ho, _ => exact absurd (h.1.1) (by first | exact fun z => ho (by rw [z]; decide) | (rw [ho]; decide))
    | 1, ho, _ => exact absurd (h.2.1.1) (by first | exact fun z => ho (by rw [z]; decide) | (rw [ho]; decide))
    | 2, ho, _ => exact absurd (h.2.2.1.1) (by first | exact fun z => ho (by rw [z]; decide) | (rw [ho]; decide))
    | 3, ho, _ => exact absurd (h.2.2.2.1.1) (by first | exact fun z => ho (by rw [z]; decide) | (rw [ho]; decide))
    | 4, ho, _ => exact absurd (h.2.2.2.2.1) (by first | exact fun z => ho (by rw [z]; decide) | (rw [ho]; decide))
    | i + 5, _, hw => exact hw
theorem VF_kp {a : Nat} {ty : Nat → Int32} {R6 : Nat → List Int32} (h : VF ow w a ty R6) (hk : kp ow ow' ts w w') (h0 : 0 ∉ ts) : VF ow' w' a ty R6 := by
  obtain ⟨⟨gd, h1⟩, h2⟩ := h
  exact ⟨⟨gd, FM_kp h1 hk h0 h0⟩, HD_kp h2 hk h0⟩
theorem PBq_kp {v a : Nat} {pv : Nat → Option Nat} (h : PBq w v a) (hp : cl ow w 3 10 (.inl (4, 10, .inr (.inr (.inr (.inr pv)))))) (hk : kp ow ow' ts w w') (h3 : 3 ∉ ts) : PBq w' v a := by
  obtain ⟨q, h1, h2⟩ := h
  exact ⟨q, (cl_kp ⟨hp.1, h1⟩ hk h3).2, h2⟩
theorem ABq_kp {v a : Nat} {bg : Nat → Option Nat} (h : ABq w v a) (hp : cl ow w 4 11 (.inl (6, 20, .inr (.inr (.inr (.inr bg)))))) (hk : kp ow ow' ts w w') (h3 : 4 ∉ ts) : ABq w' v a := by
  obtain ⟨q, h1, h2⟩ := h
  exact ⟨q, (cl_kp ⟨hp.1, h1⟩ hk h3).2, h2⟩
theorem CP_kp (h : CP ow w tn vn an R vv ar) (hk : kp ow ow' ts w w') (h0 : 0 ∉ ts) (h2 : 2 ∉ ts) (h3 : 3 ∉ ts) (h4 : 4 ∉ ts) (h5 : 5 ∉ ts) (h10 : ∀ a, 10 + a ∉ ts) : CP ow' w' tn vn an R vv ar := by
  obtain ⟨⟨tx, p, k, l, lt, st, pn, hS, hc, htx⟩, ⟨gd, hM⟩, ⟨pv, hp⟩, ⟨bg, hb⟩, hV, hA⟩ := h
  refine ⟨⟨tx, p, k, l, lt, st, pn, SRC_kp hS hk h5, hc, htx⟩, ⟨gd, FM_kp hM hk h2 h0⟩, ⟨pv, cl_kp hp hk h3⟩, ⟨bg, cl_kp hb hk h4⟩, fun v hv => ?_, fun a ha => ?_⟩
  · obtain ⟨a, h6, h7⟩ := hV v hv
    exact ⟨a, PBq_kp h6 hp hk h3, VF_kp h7 hk h0⟩
  · obtain ⟨b, fa, h6, h7, h8⟩ := hA a ha
    exact ⟨b, fa, ABq_kp h6 hb hk h4, PBq_kp h7 hp hk h3, AN_kp h8 hk (h10 a)⟩
theorem AN_cong {t b v fa : Nat} {st db : Int32} {vl hs vl' hs' : Nat → Int32} (h : AN ow w t b v fa st db vl hs) (e1 : ∀ j, j < 6 → vl j = vl' j) (e2 : ∀ j, j < 6 → hs j = hs' j) : AN ow w t b v fa st db vl' hs' := by
  obtain ⟨h1, kn, vd, h2, h3, h4, h5⟩ := h
  exact ⟨h1, kn, vd, h2, h3, fun j hj => (h4 j hj).trans (e1 j hj), fun j hj => (e2 j hj).symm.trans (h5 j hj)⟩
theorem FM_ty {t a y q o h : Nat} {ty ty' : Nat → Int32} {R6 : Nat → List Int32} {gd : Nat → Option Nat} (hM : FM ow w t a y q o h ty R6 gd) (e : ∀ j, j < 6 → ty j = ty' j) : FM ow w t a y q o h ty' R6 gd := by
  obtain ⟨h1, ⟨h2, td, h3, h4⟩, h5⟩ := hM
  exact ⟨h1, ⟨h2, td, h3, fun j hj => (h4 j hj).trans (e j hj)⟩, h5⟩
theorem VF_ty {a : Nat} {ty ty' : Nat → Int32} {R6 : Nat → List Int32} (h : VF ow w a ty R6) (e : ∀ j, j < 6 → ty j = ty' j) : VF ow w a ty' R6 := by
  obtain ⟨⟨gd, h1⟩, h2⟩ := h
  exact ⟨⟨gd, FM_ty h1 e⟩, h2⟩
/-- the picture sees of the reference's arrays: the text, the types, and what the answers have -/
theorem CP_ar (h : CP ow w tn vn an R vv ar) (e0 : ∀ j, j < tn → ar 0 j = ar' 0 j) (e4 : ar 4 = ar' 4) (ea : ∀ a, a < an → ar 7 a = ar' 7 a ∧ ar 11 a = ar' 11 a ∧ (∀ j, j < 6 → ar 9 (6 * a + j) = ar' 9 (6 * a + j)) ∧ ∀ j, j < 6 → ar 10 (6 * a + j) = ar' 10 (6 * a + j)) : CP ow w tn vn an R vv ar' := by
  obtain ⟨⟨tx, p, k, l, lt, st, pn, hS, hc, htx⟩, ⟨gd, hM⟩, hp, hb, hV, hA⟩ := h
  refine ⟨⟨tx, p, k, l, lt, st, pn, hS, hc, fun j hj => (htx j hj).trans (e0 j hj)⟩, ⟨gd, by rw [← e4]; exact hM⟩, hp, hb, fun v hv => ?_, fun a ha => ?_⟩
  · obtain ⟨a, h6, h7⟩ := hV v hv
    exact ⟨a, h6, by unfold tyA; rw [← e4]; exact h7⟩
  · obtain ⟨b, fa, h6, h7, h8⟩ := hA a ha
    obtain ⟨g1, g2, g3, g4⟩ := ea a ha
    exact ⟨b, fa, h6, h7, by rw [← g1, ← g2]; exact AN_cong h8 g3 g4⟩
/-- one answer has changed -/
theorem CP_ans {a b fa : Nat} {st db : Int32} {vl hs : Nat → Int32} (h : CP ow w tn vn an R vv ar) (ha : a < an) (hb : ABq w a b) (hf : PBq w (vv a) fa) (hk : kp ow ow [1, 10 + a] w w') (hN : AN ow w' (10 + a) b (vv a) fa st db vl hs) (e0 : ar' 0 = ar 0) (e4 : ar' 4 = ar 4) (e7 : ar' 7 a = st) (e11 : ar' 11 a = db) (e9 : ∀ j, j < 6 → vl j = ar' 9 (6 * a + j)) (e10 : ∀ j, j < 6 → hs j = ar' 10 (6 * a + j)) (ea : ∀ a', a' < an → a' ≠ a → ar' 7 a' = ar 7 a' ∧ ar' 11 a' = ar 11 a' ∧ (∀ j, j < 6 → ar 9 (6 * a' + j) = ar' 9 (6 * a' + j)) ∧ ∀ j, j < 6 → ar 10 (6 * a' + j) = ar' 10 (6 * a' + j)) : CP ow w' tn vn an R vv ar' := by
  obtain ⟨⟨tx, p, k, l, lt, st9, pn, hS, hc, htx⟩, ⟨gd, hM⟩, ⟨pv, hp⟩, ⟨bg, hbg⟩, hV, hA⟩ := h
  have hne : ∀ z, z < 10 → z ≠ 1 → z ∉ [1, 10 + a] := fun z h1 h2 h3 => by
    rcases List.mem_cons.mp h3 with h4 | h4
    · exact h2 h4
    · have := List.mem_singleton.mp h4; omega
  refine ⟨⟨tx, p, k, l, lt, st9, pn, SRC_kp hS hk (hne 5 (by decide) (by decide)), hc, fun j hj => by rw [e0]; exact htx j hj⟩, ⟨gd, by rw [e4]; exact FM_kp hM hk (hne 2 (by decide) (by decide)) (hne 0 (by decide) (by decide))⟩, ⟨pv, cl_kp hp hk (hne 3 (by decide) (by decide))⟩, ⟨bg, cl_kp hbg hk (hne 4 (by decide) (by decide))⟩, fun v hv => ?_, fun a' ha' => ?_⟩
  · obtain ⟨x, h6, h7⟩ := hV v hv
    exact ⟨x, PBq_kp h6 hp hk (hne 3 (by decide) (by decide)), by unfold tyA; rw [e4]; exact VF_kp h7 hk (hne 0 (by decide) (by decide))⟩
  · by_cases e : a' = a
    · subst e
      exact ⟨b, fa, ABq_kp hb hbg hk (hne 4 (by decide) (by decide)), PBq_kp hf hp hk (hne 3 (by decide) (by decide)), by rw [e7, e11]; exact AN_cong hN e9 e10⟩
    · obtain ⟨b', fa', h6, h7, h8⟩ := hA a' ha'
      obtain ⟨g1, g2, g3, g4⟩ := ea a' ha' e
      refine ⟨b', fa', ABq_kp h6 hbg hk (hne 4 (by decide) (by decide)), PBq_kp h7 hp hk (hne 3 (by decide) (by decide)), ?_⟩
      rw [g1, g2]
      exact AN_cong (AN_kp h8 hk (fun z => by
        rcases List.mem_cons.mp z with h4 | h4
        · omega
        · have := List.mem_singleton.mp h4; omega)) g3 g4
/-- an answer with the version that it fills -/
theorem CP_at (h : CP ow w tn vn an R vv ar) {a : Nat} (ha : a < an) (hv : vv a < vn) : ∃ b fa gd, ABq w a b ∧ PBq w (vv a) fa ∧ AN ow w (10 + a) b (vv a) fa (ar 7 a) (ar 11 a) (fun j => ar 9 (6 * a + j)) (fun j => ar 10 (6 * a + j)) ∧ FM ow w 0 fa (fa + 1) (fa + 2) (fa + 3) (fa + 4) (tyA ar (vv a)) (RA R (vv a)) gd ∧ HD ow w 0 (fa + 4) (ordO (RA R (vv a)) 6 0 []) := by
  obtain ⟨-, -, -, -, hV, hA⟩ := h
  obtain ⟨b, fa, h1, h2, h3⟩ := hA a ha
  obtain ⟨fa2, h4, ⟨gd, h5⟩, h6⟩ := hV (vv a) hv
  obtain ⟨p1, q1, q2⟩ := h2
  obtain ⟨p2, q3, q4⟩ := h4
  rw [q1] at q3
  cases q3
  rw [q2] at q4
  cases q4
  exact ⟨b, fa, gd, h1, ⟨p1, q1, q2⟩, h3, h5, h6⟩
end CPs
