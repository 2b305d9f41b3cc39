/-! ===== the class's call and the reference's, side by side ===== -/
/-- the reference's cells and the law's row, in their places -/
def LB (ow : Nat → Nat) (w : List va_E) (sc : Nat → Int32) (ar : Nat → Nat → Int32) (f : Nat → Int64) : Prop := 31 ≤ w.length ∧ (∀ i, 12 ≤ i → i < 30 → ow i = 6) ∧ ow 30 = 7 ∧ (∀ i, 12 ≤ i → i < 30 → w[i]? = (mcs sc ar)[i - 12]?) ∧ w[30]? = some (.inl (3, 1, .inr (.inl f)))
theorem mcs_len (sc : Nat → Int32) (ar : Nat → Nat → Int32) : (mcs sc ar).length = 18 := rfl
theorem LB_mw {ow : Nat → Nat} {w : List va_E} {sc : Nat → Int32} {ar : Nat → Nat → Int32} {f : Nat → Int64} (h : LB ow w sc ar f) : w = mw (w.take 12) sc ar (w.drop 30) ∧ (w.take 12).length = 12 := by
  have hl : (w.take 12).length = 12 := by rw [List.length_take]; have := h.1; omega
  refine ⟨List.ext_getElem? (fun i => ?_), hl⟩
  unfold mw
  by_cases h1 : i < 12
  · rw [List.getElem?_append_left (by omega), List.getElem?_take, if_pos h1]
  · rw [List.getElem?_append_right (by omega), hl]
    by_cases h2 : i < 30
    · rw [List.getElem?_append_left (by rw [mcs_len]; omega)]
      exact h.2.2.2.1 i (by omega) h2
    · rw [List.getElem?_append_right (by rw [mcs_len]; omega), mcs_len, List.getElem?_drop]
      congr 1
      omega
theorem mw_hi {P T : List va_E} {sc : Nat → Int32} {ar : Nat → Nat → Int32} (hP : P.length = 12) {i : Nat} (h : 30 ≤ i) : (mw P sc ar T)[i]? = T[i - 30]? := by
  unfold mw
  rw [List.getElem?_append_right (by omega), hP, List.getElem?_append_right (by rw [mcs_len]; omega), mcs_len, show i - 12 - 18 = i - 30 by omega]
theorem mw_old {P T : List va_E} {sc sc2 : Nat → Int32} {ar ar2 : Nat → Nat → Int32} (hP : P.length = 12) {i : Nat} (h : i < 12 ∨ 30 ≤ i) : (mw P sc2 ar2 T)[i]? = (mw P sc ar T)[i]? := by
  rcases h with h | h
  · unfold mw
    rw [List.getElem?_append_left (by omega), List.getElem?_append_left (by omega)]
  · rw [mw_hi hP h, mw_hi hP h]
theorem mw_len {P T : List va_E} {sc : Nat → Int32} {ar : Nat → Nat → Int32} : (mw P sc ar T).length = P.length + (18 + T.length) := by unfold mw; rw [List.length_append, List.length_append, mcs_len]
/-- the reference's call leaves the class's cells -/
theorem LB_ref {ow : Nat → Nat} {w : List va_E} {sc sc2 : Nat → Int32} {ar ar2 : Nat → Nat → Int32} {f : Nat → Int64} (h : LB ow w sc ar f) : kp ow ow [6] w (mw (w.take 12) sc2 ar2 (w.drop 30)) ∧ LB ow (mw (w.take 12) sc2 ar2 (w.drop 30)) sc2 ar2 f := by
  obtain ⟨hw, hl⟩ := LB_mw h
  have hle : (mw (w.take 12) sc2 ar2 (w.drop 30)).length = w.length := by
    rw [mw_len, hl, List.length_drop]
    have := h.1
    omega
  have ho : ∀ i, ow i ≠ 6 → i < 12 ∨ 30 ≤ i := fun i hi => by
    rcases Nat.lt_or_ge i 12 with e | e
    · exact Or.inl e
    · rcases Nat.lt_or_ge i 30 with e2 | e2
      · exact absurd (h.2.1 i e e2) hi
      · exact Or.inr e2
  have hk : ∀ (i : Nat) (e : va_E), ow i ≠ 6 → w[i]? = some e → (mw (w.take 12) sc2 ar2 (w.drop 30))[i]? = some e := fun i e hi he => by
    rw [mw_old (sc := sc) (ar := ar) hl (ho i hi), ← hw]; exact he
  refine ⟨⟨by rw [hle]; exact Nat.le_refl _, fun _ _ => rfl, fun i e hi he => hk i e (fun z => hi (by rw [z]; decide)) he, fun i n g hi he => ⟨g, hk i _ (by rw [hi]; decide) he⟩⟩, ⟨by rw [hle]; exact h.1, h.2.1, h.2.2.1, fun i h1 h2 => ?_, hk 30 _ (by rw [h.2.2.1]; decide) h.2.2.2.2⟩⟩
  unfold mw
  rw [List.getElem?_append_right (by omega), hl, List.getElem?_append_left (by rw [mcs_len]; omega)]
theorem LB_kq {ow ow' : Nat → Nat} {w w' : List va_E} {sc : Nat → Int32} {ar : Nat → Nat → Int32} {f : Nat → Int64} (h : LB ow w sc ar f) (hk : kq ow ow' w w') : LB ow' w' sc ar f := by
  have hl := h.1
  refine ⟨Nat.le_trans h.1 hk.1, fun i h1 h2 => (hk.2.1 i (by omega)).trans (h.2.1 i h1 h2), (hk.2.1 30 (by omega)).trans h.2.2.1, fun i h1 h2 => ?_, hk.2.2 30 _ (Or.inr h.2.2.1) h.2.2.2.2⟩
  have h3 := h.2.2.2.1 i h1 h2
  obtain ⟨e, he⟩ : ∃ e, (mcs sc ar)[i - 12]? = some e := ⟨_, List.getElem?_eq_getElem (by rw [mcs_len]; omega)⟩
  rw [he] at h3 ⊢
  exact hk.2.2 i e (Or.inl (h.2.1 i h1 h2)) h3
theorem LB_out {ow : Nat → Nat} {w : List va_E} {sc : Nat → Int32} {ar : Nat → Nat → Int32} {f g : Nat → Int64} (h : LB ow w sc ar f) : kp ow ow [7] w (w.set 30 (.inl (3, 1, .inr (.inl g)))) ∧ LB ow (w.set 30 (.inl (3, 1, .inr (.inl g)))) sc ar g := by
  refine ⟨kp_set h.2.2.1 (List.mem_singleton.mpr rfl) (by decide), by rw [List.length_set]; exact h.1, h.2.1, h.2.2.1, fun i h1 h2 => ?_, ?_⟩
  · rw [List.getElem?_set_ne (by omega)]; exact h.2.2.2.1 i h1 h2
  · rw [List.getElem?_set_self (by have := h.1; omega)]
/-- an answer that was handed in has a value in each field that is put -/
def HV (an : Nat) (R : Nat → List Int32) (vv : Nat → Nat) (ar : Nat → Nat → Int32) : Prop := ∀ a, a < an → ar 7 a ≠ 0 → ∀ f, f < 6 → canP ar R (vv a) f = true → ar 10 (6 * a + f) = 1
def SK (tn vn an : Nat) (R : Nat → List Int32) (vv : Nat → Nat) (ar : Nat → Nat → Int32) : Prop := SI tn vn an R vv ar ∧ HV an R vv ar
/-- all that holds between two calls -/
def LI (ow : Nat → Nat) (w : List va_E) (tn vn an : Nat) (R : Nat → List Int32) (vv : Nat → Nat) (sc : Nat → Int32) (ar : Nat → Nat → Int32) (f : Nat → Int64) : Prop := LB ow w sc ar f ∧ CP ow w tn vn an R vv ar ∧ MI tn vn an R vv sc ar ∧ SK tn vn an R vv ar
def LJ (w : List va_E) (c : Int32) (x : Int64) : Prop := ∃ (ow : Nat → Nat) (tn vn an : Nat) (R : Nat → List Int32) (vv : Nat → Nat) (sc : Nat → Int32) (ar : Nat → Nat → Int32) (f : Nat → Int64), LI ow w tn vn an R vv sc ar f ∧ sc 12 = c ∧ (c = 0 → f 0 = x)
/-- the reference's call fits: it tells the same exception, the same answer, and the same state -/
def RC (G : aw_G) (F8 : aw_F) (as8 : List Value) (sc : Nat → Int32) (ar : Nat → Nat → Int32) (c v : Int32) (ow : Nat → Nat) (w : List va_E) : Prop := ∃ C : Int32 → (Nat → Int32) → (Nat → Nat → Int32) → Prop, (∀ P T : List va_E, P.length = 12 → AM G F8 as8 (mw P sc ar T) (qe P T C)) ∧ ∀ (b : Int32) (sc2 : Nat → Int32) (ar2 : Nat → Nat → Int32), C b sc2 ar2 → sc2 12 = c ∧ (c = 0 → v = b) ∧ ∃ (tn vn an : Nat) (R : Nat → List Int32) (vv : Nat → Nat), MI tn vn an R vv sc2 ar2 ∧ SK tn vn an R vv ar2 ∧ CP ow w tn vn an R vv ar2
def NQ (ow : Nat → Nat) (w : List va_E) (Es : List String) (cd : String → Int32) (Z : Int32 → Int32 → (Nat → Nat) → List va_E → Prop) : aw_R → List va_E → Prop := fun r w1 => ∃ ow' : Nat → Nat, kq ow ow' w w1 ∧ ((∃ v : Int32, r = .inl (some (.int v)) ∧ Z 0 v ow' w1) ∨ ∃ E ∈ Es, r = .inr E ∧ Z (cd E) 0 ow' w1)
def JQ (c : Int32) (vl : Int32 → Int64) : aw_R → List va_E → Prop := fun r w => ∃ b : Int32, r = .inl (some (.int b)) ∧ LJ w c (vl b)
theorem CP_rr {ow : Nat → Nat} {w w' : List va_E} {ts : List Nat} {tn vn an : Nat} {R : Nat → List Int32} {vv : Nat → Nat} {ar : Nat → Nat → Int32} (h : CP ow w tn vn an R vv ar) (hk : kp ow ow ts w w') (hts : ∀ t ∈ ts, t = 6 ∨ t = 7) : CP ow w' tn vn an R vv ar := by
  refine CP_kp h hk (fun z => ?_) (fun z => ?_) (fun z => ?_) (fun z => ?_) (fun z => ?_) (fun a z => ?_) <;> (rcases hts _ z with e | e <;> omega)
theorem RC_JQ {G : aw_G} {F8 : aw_F} {as8 : List Value} {sc : Nat → Int32} {ar : Nat → Nat → Int32} {c v : Int32} {ow : Nat → Nat} {w w2 : List va_E} {g : Nat → Int64} {vl : Int32 → Int64} {ts : List Nat} (h : RC G F8 as8 sc ar c v ow w) (hk : kp ow ow ts w w2) (hts : ∀ t ∈ ts, t = 6 ∨ t = 7) (hL : LB ow w2 sc ar g) (hg : c = 0 → g 0 = vl v) : AM G F8 as8 w2 (JQ c vl) := by
  obtain ⟨C, hA, hC⟩ := h
  obtain ⟨hw, hl⟩ := LB_mw hL
  have h1 := hA _ (w2.drop 30) hl
  rw [← hw] at h1
  refine AM_post ?_ h1
  rintro r w' ⟨b, sc2, ar2, e1, rfl, h2⟩
  obtain ⟨h3, h4, tn, vn, an, R, vv, h5, h6, h7⟩ := hC b sc2 ar2 h2
  obtain ⟨hk6, hL6⟩ := LB_ref (sc2 := sc2) (ar2 := ar2) hL
  refine ⟨b, e1, ow, tn, vn, an, R, vv, sc2, ar2, g, ⟨hL6, CP_rr (CP_rr h7 hk hts) hk6 (by simp), h5, h6⟩, h3, fun z => ?_⟩
  rw [hg z, h4 z]
/-- the law's method, then the reference's: what is left to be compared -/
def lqP (G : aw_G) (F8 : aw_F) (as8 : List Value) (vl : Int32 → Int64) : aw_R → List va_E → Prop := fun r w => ∃ c : Int32, r = .inl (some (.int c)) ∧ (∃ fs, w[12]? = some (.inr (7, fs))) ∧ AM G F8 as8 w (JQ c vl)
theorem LB_12 {ow : Nat → Nat} {w : List va_E} {sc : Nat → Int32} {ar : Nat → Nat → Int32} {f : Nat → Int64} (h : LB ow w sc ar f) : w[12]? = some (.inr (7, mfs sc)) := h.2.2.2.1 12 (by decide) (by decide)
theorem lE_of {ow : Nat → Nat} {w : List va_E} {sc : Nat → Int32} {ar : Nat → Nat → Int32} {f : Nat → Int64} {Es : List String} {cd : String → Int32} {Z : Int32 → Int32 → (Nat → Nat) → List va_E → Prop} (h : LB ow w sc ar f) : lE Es (NQ ow w Es cd Z) := by
  rintro r w' ⟨ow', hk, hr⟩
  rcases hr with ⟨v, e, -⟩ | ⟨E, hE, e, -⟩
  · exact Or.inl ⟨v, f, e, (LB_kq h hk).2.2.2.2⟩
  · exact Or.inr ⟨E, hE, e⟩
theorem cs_of {G : aw_G} {FL F8 : aw_F} {asL as8 : List Value} {ow : Nat → Nat} {w : List va_E} {sc : Nat → Int32} {ar : Nat → Nat → Int32} {f : Nat → Int64} {Es : List String} {cd : String → Int32} {vl : Int32 → Int64} (hL : LB ow w sc ar f) (hcd : ∀ E ∈ Es, cd E ≠ 0) (hal : AM G FL asL w (lq (NQ ow w Es cd (RC G F8 as8 sc ar)) vl cd)) : AM G FL asL w (lqP G F8 as8 vl) := by
  refine AM_post ?_ hal
  rintro r w' (⟨v, w1, f1, ⟨ow', hk, hr⟩, e1, hf, rfl⟩ | ⟨E, ⟨ow', hk, hr⟩, e1⟩)
  · rcases hr with ⟨v2, e2, hZ⟩ | ⟨E, -, e2, -⟩
    · cases e2
      have hL1 := LB_kq hL hk
      obtain ⟨hk7, hL7⟩ := LB_out (g := vp_updL f1 0 (vl v)) hL1
      refine ⟨0, e1, ⟨_, LB_12 hL7⟩, RC_JQ hZ hk7 (by simp) hL7 (fun _ => ?_)⟩
      simp [vp_updL]
    · cases e2
  · rcases hr with ⟨v2, e2, -⟩ | ⟨E2, hE, e2, hZ⟩
    · cases e2
    · cases e2
      have hL1 := LB_kq hL hk
      exact ⟨cd E, e1, ⟨_, LB_12 hL1⟩, RC_JQ hZ kp_rf (ts := []) (fun _ z => nomatch z) hL1 (fun z => absurd z (hcd E hE))⟩
def dj (v : Int32) : aw_R → List va_E → Prop := fun r2 w2 => r2 = .inl (some (.int v)) ∧ ∃ x, LJ w2 0 x
/-- a call that isn't caught: x's answer, then the reference's -/
def dqP (G : aw_G) (F8 : aw_F) (as8 : List Value) : aw_R → List va_E → Prop := fun r w => ∃ v : Int32, r = .inl (some (.int v)) ∧ (∃ fs, w[12]? = some (.inr (7, fs))) ∧ AM G F8 as8 w (dj v)
theorem ds_of {G : aw_G} {F7 F8 : aw_F} {as7 as8 : List Value} {ow : Nat → Nat} {w : List va_E} {sc : Nat → Int32} {ar : Nat → Nat → Int32} {f : Nat → Int64} {cd : String → Int32} (hL : LB ow w sc ar f) (h7 : AM G F7 as7 w (NQ ow w [] cd (RC G F8 as8 sc ar))) : AM G F7 as7 w (dqP G F8 as8) := by
  refine AM_post ?_ h7
  rintro r w1 ⟨ow', hk, hr⟩
  rcases hr with ⟨v, e, hZ⟩ | ⟨E, hE, -⟩
  · have hL1 := LB_kq hL hk
    refine ⟨v, e, ⟨_, LB_12 hL1⟩, ?_⟩
    obtain ⟨C, hA, hC⟩ := hZ
    obtain ⟨hw, hl⟩ := LB_mw hL1
    have h1 := hA _ (w1.drop 30) hl
    rw [← hw] at h1
    refine AM_post ?_ h1
    rintro r w' ⟨b, sc2, ar2, e1, rfl, h2⟩
    obtain ⟨h3, h4, tn, vn, an, R, vv, h5, h6, h9⟩ := hC b sc2 ar2 h2
    obtain ⟨hk6, hL6⟩ := LB_ref (sc2 := sc2) (ar2 := ar2) hL1
    exact ⟨by rw [h4 rfl]; exact e1, f 0, ow', tn, vn, an, R, vv, sc2, ar2, f, ⟨hL6, CP_rr h9 hk6 (by simp), h5, h6⟩, h3, fun _ => rfl⟩
  · cases hE
