/-! ===== the class's picture: its cells, each with an owner ===== -/
/-- from w to w': cells whose owner is not in ts are as they were; scratch rows (owner 1) keep their shape -/
def kp (ow ow' : Nat → Nat) (ts : List Nat) (w w' : List va_E) : Prop :=
  w.length ≤ w'.length ∧ (∀ i, i < w.length → ow' i = ow i) ∧ (∀ (i : Nat) (e : va_E), ow i ∉ ts → w[i]? = some e → w'[i]? = some e) ∧ ∀ (i n : Nat) (g : Nat → Int32), ow i = 1 → w[i]? = some (.inl (0, n, .inl g)) → ∃ g' : Nat → Int32, w'[i]? = some (.inl (0, n, .inl g'))
def cl (ow : Nat → Nat) (w : List va_E) (t i : Nat) (e : va_E) : Prop := ow i = t ∧ w[i]? = some e
section KP
variable {ow ow' ow2 : Nat → Nat} {ts ts' : List Nat} {w w' w2 : List va_E} {t i : Nat} {e e' : va_E}
theorem kp_rf : kp ow ow ts w w := ⟨Nat.le_refl _, fun _ _ => rfl, fun _ _ _ h => h, fun _ _ g _ h => ⟨g, h⟩⟩
theorem lt_of_at (h : w[i]? = some e) : i < w.length := (List.getElem?_eq_some_iff.mp h).1
theorem kp_tr (h : kp ow ow' ts w w') (h2 : kp ow' ow2 ts w' w2) : kp ow ow2 ts w w2 :=
  ⟨Nat.le_trans h.1 h2.1, fun i hi => (h2.2.1 i (Nat.lt_of_lt_of_le hi h.1)).trans (h.2.1 i hi), fun i e ho hw => h2.2.2.1 i e (by rw [h.2.1 i (lt_of_at hw)]; exact ho) (h.2.2.1 i e ho hw), fun i n g ho hw => by
    obtain ⟨g1, h1⟩ := h.2.2.2 i n g ho hw
    exact h2.2.2.2 i n g1 (by rw [h.2.1 i (lt_of_at hw)]; exact ho) h1⟩
theorem kp_mono (h : kp ow ow' ts w w') (hs : ∀ t ∈ ts, t ∈ ts') : kp ow ow' ts' w w' := ⟨h.1, h.2.1, fun i e ho => h.2.2.1 i e (fun z => ho (hs _ z)), h.2.2.2⟩
theorem cl_kp (h : cl ow w t i e) (k : kp ow ow' ts w w') (ht : t ∉ ts) : cl ow' w' t i e := ⟨(k.2.1 i (lt_of_at h.2)).trans h.1, k.2.2.1 i e (by rw [h.1]; exact ht) h.2⟩
theorem kp_set (h : ow i = t) (ht : t ∈ ts) (h1 : t ≠ 1) : kp ow ow ts w (w.set i e) :=
  ⟨by rw [List.length_set]; exact Nat.le_refl _, fun _ _ => rfl, fun j x ho hw => by
    have hij : i ≠ j := fun z => ho (by rw [← z, h]; exact ht)
    rw [List.getElem?_set_ne hij]; exact hw, fun j n g ho hw => ⟨g, by
    have hij : i ≠ j := fun z => h1 (by rw [← h, z]; exact ho)
    rw [List.getElem?_set_ne hij]; exact hw⟩⟩
theorem kp_push (l : List va_E) (h : ∀ i, i < w.length → ow' i = ow i) : kp ow ow' ts w (w ++ l) :=
  ⟨by rw [List.length_append]; omega, h, fun i e _ hw => by rw [List.getElem?_append_left (lt_of_at hw)]; exact hw, fun i n g _ hw => ⟨g, by rw [List.getElem?_append_left (lt_of_at hw)]; exact hw⟩⟩
theorem cl_set (h : cl ow w t i e) : cl ow (w.set i e') t i e' := ⟨h.1, by rw [List.getElem?_set_self (lt_of_at h.2)]⟩
theorem cl_ne {j : Nat} (h : cl ow w t i e) (hj : j ≠ i) : cl ow (w.set j e') t i e := ⟨h.1, by rw [List.getElem?_set_ne hj]; exact h.2⟩
theorem kp_fW {a n : Nat} {g g0 : Nat → Int32} (h : cl ow w 1 (a + 3) (.inl (0, n, .inl g0))) (ht : 1 ∈ ts) : kp ow ow ts w (fW w a n g) :=
  ⟨by unfold fW; rw [List.length_set]; exact Nat.le_refl _, fun _ _ => rfl, fun j x ho hw => by
    have hij : j ≠ a + 3 := fun z => ho (by rw [z, h.1]; exact ht)
    rw [fW_ne hij]; exact hw, fun j m g1 ho hw => by
    by_cases hij : j = a + 3
    · subst hij
      have := h.2
      rw [hw] at this
      cases this
      exact ⟨g, by unfold fW; rw [List.getElem?_set_self (lt_of_at hw)]⟩
    · exact ⟨g1, by rw [fW_ne hij]; exact hw⟩⟩
end KP
-- a Formula, a Formula or none, the types, a Form, the values, an Answer
def FP (ow : Nat → Nat) (w : List va_E) (a : Nat) (row : List Int32) : Prop :=
  wfr row ∧ sgL row ∧ (plS row).length ≤ 80 ∧ cl ow w 0 a (.inr (2, [.ref (a + 1), .ref (a + 3), .ref (a + 2), .int (msk 0 row)])) ∧ (∃ f : Nat → Int32, cl ow w 0 (a + 1) (.inl (0, row.length, .inl f)) ∧ arow f (row.map stc)) ∧ (∃ f : Nat → Int32, cl ow w 0 (a + 2) (.inl (0, (plS row).length, .inl f)) ∧ arow f (plS row)) ∧ ∃ g : Nat → Int32, cl ow w 1 (a + 3) (.inl (0, row.length, .inl g))
def FO (ow : Nat → Nat) (w : List va_E) (o : Option Nat) (row : List Int32) : Prop := match o with
  | none => row = []
  | some a => FP ow w a row
def TY (ow : Nat → Nat) (w : List va_E) (t r q : Nat) (ty : Nat → Int32) : Prop := cl ow w t r (.inr (4, [.ref q])) ∧ ∃ td : Nat → Int32, cl ow w t q (.inl (0, 6, .inl td)) ∧ ∀ j, j < 6 → td j = ty j
def FM (ow : Nat → Nat) (w : List va_E) (t a y q o h : Nat) (ty : Nat → Int32) (R6 : Nat → List Int32) (gd : Nat → Option Nat) : Prop :=
  cl ow w t a (.inr (1, [.ref y, .ref o, .ref h])) ∧ TY ow w t y q ty ∧ cl ow w t o (.inl (5, 10, .inr (.inr (.inr (.inr gd))))) ∧ (∀ k, k < 10 → FO ow w (gd k) (R6 k)) ∧ ∃ td : Nat → Int32, cl ow w t h (.inl (0, 6, .inl td))
def HD (ow : Nat → Nat) (w : List va_E) (t h : Nat) (L : List Nat) : Prop := ∃ td : Nat → Int32, cl ow w t h (.inl (0, 6, .inl td)) ∧ ∀ j, j < 6 → td j = ((L[j]?).map nI).getD (-1)
def VP (ow : Nat → Nat) (w : List va_E) (t r : Nat) (vl hs : Nat → Int32) : Prop := ∃ (kn : Int32) (vd : Nat → Int32), cl ow w t r (.inr (5, [.ref (r + 1), .int kn])) ∧ cl ow w t (r + 1) (.inl (0, 6, .inl vd)) ∧ (∀ j, j < 6 → vd j = vl j) ∧ ∀ j, j < 6 → hs j = bi (bitI kn j)
def AN (ow : Nat → Nat) (w : List va_E) (t b v fa : Nat) (st db : Int32) (vl hs : Nat → Int32) : Prop := cl ow w t b (.inr (0, [.int (nI v), .ref fa, .ref (b + 1), .int st, .int db])) ∧ VP ow w t (b + 1) vl hs
section PK
variable {ow ow' : Nat → Nat} {ts : List Nat} {w w' : List va_E} {t a : Nat}
theorem FP_kp {row : List Int32} (h : FP ow w a row) (k : kp ow ow' ts w w') (h0 : 0 ∉ ts) : FP ow' w' a row := by
  obtain ⟨h1, h2, h3, h4, ⟨f, h5, h6⟩, ⟨f2, h7, h8⟩, g, h9, h10⟩ := h
  obtain ⟨g', hg⟩ := k.2.2.2 _ _ g h9 h10
  exact ⟨h1, h2, h3, cl_kp h4 k h0, ⟨f, cl_kp h5 k h0, h6⟩, ⟨f2, cl_kp h7 k h0, h8⟩, g', (k.2.1 _ (lt_of_at h10)).trans h9, hg⟩
theorem FO_kp {o : Option Nat} {row : List Int32} (h : FO ow w o row) (k : kp ow ow' ts w w') (h0 : 0 ∉ ts) : FO ow' w' o row := by
  cases o with
  | none => exact h
  | some a => exact FP_kp h k h0
theorem TY_kp {r q : Nat} {ty : Nat → Int32} (h : TY ow w t r q ty) (k : kp ow ow' ts w w') (ht : t ∉ ts) : TY ow' w' t r q ty := by
  obtain ⟨h1, td, h2, h3⟩ := h
  exact ⟨cl_kp h1 k ht, td, cl_kp h2 k ht, h3⟩
theorem FM_kp {y q o h : Nat} {ty : Nat → Int32} {R6 : Nat → List Int32} {gd : Nat → Option Nat} (hM : FM ow w t a y q o h ty R6 gd) (k : kp ow ow' ts w w') (ht : t ∉ ts) (h0 : 0 ∉ ts) : FM ow' w' t a y q o h ty R6 gd := by
  obtain ⟨h1, h2, h3, h4, td, h5⟩ := hM
  exact ⟨cl_kp h1 k ht, TY_kp h2 k ht, cl_kp h3 k ht, fun j hj => FO_kp (h4 j hj) k h0, td, cl_kp h5 k ht⟩
theorem HD_kp {h : Nat} {L : List Nat} (hM : HD ow w t h L) (k : kp ow ow' ts w w') (ht : t ∉ ts) : HD ow' w' t h L := by
  obtain ⟨td, h1, h2⟩ := hM
  exact ⟨td, cl_kp h1 k ht, h2⟩
theorem VP_kp {r : Nat} {vl hs : Nat → Int32} (h : VP ow w t r vl hs) (k : kp ow ow' ts w w') (ht : t ∉ ts) : VP ow' w' t r vl hs := by
  obtain ⟨kn, vd, h1, h2, h3, h4⟩ := h
  exact ⟨kn, vd, cl_kp h1 k ht, cl_kp h2 k ht, h3, h4⟩
theorem AN_kp {b v fa : Nat} {st db : Int32} {vl hs : Nat → Int32} (h : AN ow w t b v fa st db vl hs) (k : kp ow ow' ts w w') (ht : t ∉ ts) : AN ow' w' t b v fa st db vl hs := ⟨cl_kp h.1 k ht, VP_kp h.2 k ht⟩
end PK
-- readings see six fields alone
theorem rp_cong {N : Int32 → Int32} {L L' : Nat → Int32} {Bn : Int32 → Int32} {S : Int32 → Int32 → Int32 → Int32} (h : ∀ j, j < 6 → L j = L' j) : ∀ (cs st : List Int32), okL cs → rp N L Bn S cs st = rp N L' Bn S cs st
  | [], _, _ => rfl
  | c :: cs, st, hok => by
    have ih := fun st' => rp_cong (N := N) (Bn := Bn) (S := S) h cs st' (fun x hx => hok x (List.mem_cons_of_mem _ hx))
    by_cases h1 : c < 1000
    · rw [rp, rp, if_pos h1, if_pos h1]; exact ih _
    · by_cases h2 : c < 2000
      · obtain ⟨j, hj, -, hcj⟩ := okL_ix hok (List.mem_cons_self ..) h1 h2
        rw [rp, rp, if_neg h1, if_neg h1, if_pos h2, if_pos h2, hcj, h j hj]; exact ih _
      · by_cases h3 : c = 2033
        · rw [rp, rp, if_neg h1, if_neg h1, if_neg h2, if_neg h2, if_pos h3, if_pos h3]
          cases st with
          | nil => rfl
          | cons a s => exact ih _
        · rw [rp, rp, if_neg h1, if_neg h1, if_neg h2, if_neg h2, if_neg h3, if_neg h3]
          cases st with
          | nil => rfl
          | cons a s =>
            cases s with
            | nil => rfl
            | cons b s => exact ih _
theorem tyV_cong {ty ty' : Nat → Int32} {row : List Int32} (hok : okL row) (h : ∀ j, j < 6 → ty j = ty' j) : tyV ty row = tyV ty' row := by
  unfold tyV tyR
  rw [rp_cong (L := tyL ty) (L' := tyL ty') (fun j hj => by unfold tyL; rw [h j hj]) row [] hok]
theorem vaV_cong {vl vl' : Nat → Int32} {row : List Int32} (hok : okL row) (h : ∀ j, j < 6 → vl j = vl' j) : vaV vl row = vaV vl' row := by
  unfold vaV vaR
  rw [rp_cong h row [] hok]
theorem va_one {ty vl : Nat → Int32} {row : List Int32} (hr : wfr row) (hs : sgL row) (ht : tyV ty row ≠ -1) (hl : ∀ j, j < 6 → fl01 (ty j) (vl j)) : vaRK vl row [] = some [vaV vl row] ∧ fl01 (tyV ty row) (vaV vl row) := by
  obtain ⟨u, h1, h2, h3⟩ := va_eq hl row [] [] _ (tyV_of hr) (fun z => ht (List.mem_singleton.mp z).symm) trivial hr.2.1 hs
  rw [vaV_of hr] at h2
  cases h2
  exact ⟨h1, h3.1⟩
/-- an answer, and scratch rows alone have changed -/
def qs (ow : Nat → Nat) (w : List va_E) (v : Int32) : aw_R → List va_E → Prop := fun r w' => r = .inl (some (.int v)) ∧ kp ow ow [1] w w'
theorem aw_ks {G : aw_G} {F : aw_F} {kc ks : Nat} {ow : Nat → Nat} {w : List va_E} {pc : Nat} {loc : List (Option Value)} {rest : List Value} {Q : aw_R → List va_E → Prop} {v : Int32} (h : ∀ w', kp ow ow [1] w w' → AW G F kc ks w' pc loc (.int v :: rest) Q) : ∀ (r : Option Value) (w' : List va_E), qs ow w v (.inl r) w' → w.length ≤ w'.length → AW G F kc ks w' pc loc (r.toList ++ rest) Q := by
  rintro r w' ⟨e, hk⟩ -
  cases e
  exact h w' hk
theorem aw_ts {ow : Nat → Nat} {w : List va_E} {Q : aw_R → List va_E → Prop} {v : Int32} : ∀ (E : String) (w' : List va_E), qs ow w v (.inr E) w' → w.length ≤ w'.length → Q (.inr E) w' := by
  rintro E w' ⟨e, -⟩
  cases e
theorem cl_dif {ow : Nat → Nat} {w : List va_E} {t t' i j : Nat} {e e' : va_E} (h : cl ow w t i e) (h' : cl ow w t' j e') (ht : t ≠ t') : i ≠ j := fun z => ht (by rw [← h.1, z]; exact h'.1)
theorem FP_fm {ow : Nat → Nat} {w : List va_E} {a : Nat} {row : List Int32} (h : FP ow w a row) : ∃ f : Nat → Int32, fm w a row.length (msk 0 row) f ∧ arow f (row.map stc) := by
  obtain ⟨h1, h2, h3, h4, ⟨f, h5, h6⟩, -, g, h9⟩ := h
  exact ⟨f, ⟨h4.2, h5.2, ⟨g, h9.2⟩, h1.2.2⟩, h6⟩
theorem ac5_rd {G : aw_G} {ow : Nat → Nat} {w : List va_E} {a r q t : Nat} {row : List Int32} {ty : Nat → Int32} (hF : FP ow w a row) (hT : TY ow w t r q ty) (ht : t ≠ 1) : AM G fX2_readFor [.ref a, .ref r] w (qs ow w (tyV ty row)) := by
  obtain ⟨f, hf, hfr⟩ := FP_fm hF
  obtain ⟨g, hg⟩ := hF.2.2.2.2.2.2
  obtain ⟨td, hd, hde⟩ := hT.2
  refine AM_post ?_ (ac5_readFor hf hT.1.2 hd.2 (cl_dif hT.1 hg ht) (cl_dif hd hg ht) rfl (fun k x hx => hfr k _ (by rw [List.getElem?_map, hx]; rfl)) hF.1.2.1 hF.2.1 (tyV_of hF.1))
  rintro r w' ⟨e, g', rfl⟩
  exact ⟨by rw [e, tyV_cong hF.1.2.1 hde], kp_fW hg (by decide)⟩
theorem ac6_rd {G : aw_G} {ow : Nat → Nat} {w : List va_E} {a r t : Nat} {row : List Int32} {ty vl hs : Nat → Int32} (hF : FP ow w a row) (hV : VP ow w t r vl hs) (ht : t ≠ 1) (hty : tyV ty row ≠ -1) (hl : ∀ j, j < 6 → fl01 (ty j) (vl j)) : AM G fX2_readFor [.ref a, .ref r] w (qs ow w (vaV vl row)) := by
  obtain ⟨f, hf, hfr⟩ := FP_fm hF
  obtain ⟨g, hg⟩ := hF.2.2.2.2.2.2
  obtain ⟨kn, vd, hr, hd, hde, -⟩ := hV
  refine AM_post ?_ (ac6_readFor hf hr.2 hd.2 (cl_dif hr hg ht) (cl_dif hd hg ht) rfl (fun k x hx => hfr k _ (by rw [List.getElem?_map, hx]; rfl)) hF.1.2.1 hF.2.1 (va_one hF.1 hF.2.1 hty (fun j hj => by rw [hde j hj]; exact hl j hj)).1)
  rintro r w' ⟨e, g', rfl⟩
  exact ⟨by rw [e, vaV_cong hF.1.2.1 hde], kp_fW hg (by decide)⟩
