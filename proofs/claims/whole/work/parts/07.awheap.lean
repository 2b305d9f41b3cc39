/-! ===== AW: the rows of fields, arrays and new cells ===== -/
theorem aw_v_rf (ad : Nat → Nat) (r : Option Nat) : aw_v ad (va_rf r) = va_rf (r.map (fun k => ad (k + 1))) := by cases r <;> rfl
theorem aw_up_map (ad : Nat → Nat) (f : Nat → Option Nat) (i : Nat) (r : Option Nat) : (fun j => (va_up f i r j).map (fun k => ad (k + 1))) = va_up (fun j => (f j).map (fun k => ad (k + 1))) i (r.map (fun k => ad (k + 1))) := by
  funext j
  unfold va_up
  by_cases h : j = i
  · rw [if_pos h, if_pos h]
  · rw [if_neg h, if_neg h]
theorem aw_set_obj {G : aw_G} {ad : Nat → Nat} {w : List va_E} {a ci k : Nat} {fs : List Value} {v : Value} : (aw_w G.2.2.2.2.2.1 ad w).set a (ad (a + 1), Sum.inr (ci, (fs.map (aw_v ad)).set k (aw_v ad v))) = aw_w G.2.2.2.2.2.1 ad (w.set a (.inr (ci, fs.set k v))) := by
  rw [← aw_w_set]
  show _ = (aw_w G.2.2.2.2.2.1 ad w).set a (ad (a + 1), Sum.inr (ci, (fs.set k v).map (aw_v ad)))
  rw [List.map_set]
theorem aw_ty_eq {s : State} {D : va_G} {cl : List vw_C} {cA : Nat → ClassId} {c1 : ClassId} {ty : FieldType} (t : Nat) (ht : (aw_tys cA)[t]? = some (cA t, ty)) (hK : va_K D cl (aw_tys cA) s) (hK1 : va_K D cl (aw_tys cA ++ [(c1, ty)]) s) : c1 = cA t := by
  have h1 := (hK.2 t _ ht).2
  have h2 : va_RA s c1 ty := (hK1.2 (aw_tys cA).length (c1, ty) (by rw [List.getElem?_append_right (Nat.le_refl _), Nat.sub_self]; rfl)).2
  cases ty with
  | object C =>
    obtain ⟨k1, q1, a1, a2, a3, a4⟩ := h1
    obtain ⟨k2, q2, b1, b2, b3, b4⟩ := h2
    exact Option.some.inj (b4.symm.trans a4)
  | _ => exact Option.some.inj (Eq.trans (Eq.symm h2) h1)
section AWh
variable {G : aw_G} {F : aw_F} {s : State} {adE : Nat → Nat} {nE : Nat} {w : List va_E} {loc : List (Option Value)} {st : List Value} {kc ks : Nat} {H H' : Heap} {locs : List Loc} {ls : Array Slot} {ad : Nat → Nat} {cells slots : Nat}
/-- a new cell, the next of the world -/
theorem aw_D_push {e : va_E} {q kc' ks' N : Nat} (h : aw_D G F s adE nE w loc st kc ks H locs ls ad cells slots) (he : aw_eok w.length e) (hkc : kc' + 1 ≤ kc) (hks : ks' + N ≤ ks)
    (h1 : va_P (G.2.2.2.1, G.2.2.2.2.1) vwCl (aw_w G.2.2.2.2.2.1 ad w ++ [(q, aw_e G.2.2.2.2.2.1 ad e)]) H') (h2 : va_D (aw_A G) (aw_w G.2.2.2.2.2.1 ad w ++ [(q, aw_e G.2.2.2.2.2.1 ad e)])) (h3 : va_S (aw_A G) s.heap H' locs) {st' : List Value} (hs : (∀ v ∈ st, aw_vok (w ++ [e]).length v) → ∀ v ∈ st', aw_vok (w ++ [e]).length v) :
    aw_D G F s adE nE (w ++ [e]) loc st' kc' ks' H' locs ls (va_up ad (w.length + 1) q) (cells + 1) (slots + N) := by
  obtain ⟨-, -, -, h4, h5, h6, h7, h8, h9, h10, h0E, h11⟩ := h
  have hle : w.length ≤ (w ++ [e]).length := by rw [List.length_append]; exact Nat.le_add_right _ _
  refine ⟨?_, ?_, h3, aw_wok_push h4 he, aw_l_congr aw_up_old h6 h5, aw_lok_mono hle h6, hs (fun v hv => aw_vok_mono hle (h7 v hv)), by omega, by omega, Nat.le_trans h10 hle, h0E, fun k hk => ?_⟩
  · rw [aw_w_push h4 he]; exact h1
  · rw [aw_w_push h4 he]; exact h2
  · rw [aw_up_old k (Nat.lt_of_lt_of_le hk (Nat.succ_le_succ h10))]; exact h11 k hk
theorem aw_push_len {e : va_E} : w.length < (w ++ [e]).length := by rw [List.length_append]; exact Nat.lt_succ_self _
theorem aw_push_st {e : va_E} {q : Nat} (hst : ∀ v ∈ st, aw_vok w.length v) : Value.ref q :: st.map (aw_v ad) = (Value.ref w.length :: st).map (aw_v (va_up ad (w.length + 1) q)) := by
  rw [List.map_cons, aw_vs_congr aw_up_old hst]
  show _ = Value.ref (va_up ad (w.length + 1) q (w.length + 1)) :: _
  rw [va_up_self]
end AWh
section AWk
variable {G : aw_G} {F : aw_F} {kc ks : Nat} {w : List va_E} {pc : Nat} {loc : List (Option Value)} {st : List Value} {Q : aw_R → List va_E → Prop}
theorem r_get {a ci k index N : Nat} {C ref : String} {T : u_T} {fs : List Value} {v : Value} (hc : vwCl[ci]? = some (C, T, N)) (hin : ∀ z ∈ u_ws C T N, z ∈ aw_ztb) (hk : k < N) (hlink : Cond.fieldLink (aw_own F) index ref (T k).2.1 (T k).2.2.1 ∈ aw_ztb) (href : ref = (T k).1) (hw : w[a]? = some (.inr (ci, fs))) (hv : fs[k]? = some v) (hdg : decode (aw_c F) pc = .ok (.getfield index, 3)) (kk : AW G F kc ks w (pc + 3) loc (v :: st) Q) : AW G F kc ks w pc loc (.ref a :: st) Q := by
  intro p e s m args below meth c adE nE hS H locs ls ad cells slots hD
  obtain ⟨hx, hb, hml, hr, hlk, hown, htab, hini, hO, hG⟩ := id hS
  obtain ⟨hP, hDD, hSS, hw0, hl0, hlo, hst, hkc, hks, hn9, h0E, had⟩ := id hD
  have hts := aw_hts hS
  subst href
  refine va_get (Ts := aw_ztb) hx hb hts hin hown (aw_hK hS) hP a (aw_w_some hw) hc k hk (hts _ hlink) (fun _ h9 => h9) (v := aw_v ad v) ?_ hdg (kk p e s m args below meth c adE nE hS H locs ls ad cells slots (aw_D_st hD (aw_s1 (hw0 a _ hw v (List.mem_of_getElem? hv)))))
  show (fs.map (aw_v ad))[k]? = some (aw_v ad v)
  rw [List.getElem?_map, hv]; rfl
theorem r_put {a ci k index N : Nat} {C ref : String} {T : u_T} {ty0 : Nat → FieldType} {fs : List Value} {v : Value} {w' : List va_E} (hc : vwCl[ci]? = some (C, T, N)) (hin : ∀ z ∈ u_ws C T N, z ∈ aw_ztb) (hty : ∀ k, k < N → parseFieldDescriptor (T k).2.2.1 = some (ty0 k)) (hnm : ∀ a, a < N → ∀ b, b < N → a ≠ b → (T a).2.1 ≠ (T b).2.1) (hk : k < N) (hlink : Cond.fieldLink (aw_own F) index ref (T k).2.1 (T k).2.2.1 ∈ aw_ztb) (href : ref = (T k).1) (hfin : (T k).2.2.2 = false) (hn : ∀ ad : Nat → Nat, narrow (ty0 k) (aw_v ad v) = aw_v ad v ∧ fits (ty0 k) (aw_v ad v) = true) (hw : w[a]? = some (.inr (ci, fs))) (hl : k < fs.length) (hdg : decode (aw_c F) pc = .ok (.putfield index, 3)) (hw' : w.set a (.inr (ci, fs.set k v)) = w') (kk : AW G F kc ks w' (pc + 3) loc st Q) : AW G F kc ks w pc loc (v :: .ref a :: st) Q := by
  intro p e s m args below meth c adE nE hS H locs ls ad cells slots hD
  obtain ⟨hx, hb, hml, hr, hlk, hown, htab, hini, hO, hG⟩ := id hS
  obtain ⟨hP, hDD, hSS, hw0, hl0, hlo, hst, hkc, hks, hn9, h0E, had⟩ := id hD
  have hts := aw_hts hS
  subst href
  subst hw'
  refine va_put (Ts := aw_ztb) (fs := fs.map (aw_v ad)) hx hb hts hin ty0 hty hnm hown (aw_hK hS) hP hDD hSS a (aw_w_some hw) hc k hk (hts _ hlink) (fun _ h9 => h9) hfin (hty k hk) (hn ad).1 (hn ad).2 (by rw [List.length_map]; exact hl) hdg (fun H1 locs1 hP1 hD1 hS1 => ?_)
  rw [aw_set_obj] at hP1 hD1
  refine kk p e s m args below meth c adE nE hS H1 locs1 ls ad cells slots (aw_D_put hD (by rw [List.length_set]) aw_d2 hP1 hD1 hS1 (aw_wok_set hw0 ?_))
  intro v1 hv1
  rcases List.mem_or_eq_of_mem_set hv1 with h | h
  · exact hw0 a _ hw v1 h
  · rw [h]; exact hst v List.mem_cons_self
theorem r_putF {a ci k index N : Nat} {C ref : String} {T : u_T} {ty0 : Nat → FieldType} {fs : List Value} {v : Value} {w' : List va_E} (hc : vwCl[ci]? = some (C, T, N)) (hin : ∀ z ∈ u_ws C T N, z ∈ aw_ztb) (hty : ∀ k, k < N → parseFieldDescriptor (T k).2.2.1 = some (ty0 k)) (hnm : ∀ a, a < N → ∀ b, b < N → a ≠ b → (T a).2.1 ≠ (T b).2.1) (hk : k < N) (hlink : Cond.fieldLink (aw_own F) index ref (T k).2.1 (T k).2.2.1 ∈ aw_ztb) (href : ref = (T k).1) (hfin : (T k).2.2.2 = true) (hy : (aw_y F).name = "<init>") (hdecl : (T k).1 = aw_own F) (hn : ∀ ad : Nat → Nat, narrow (ty0 k) (aw_v ad v) = aw_v ad v ∧ fits (ty0 k) (aw_v ad v) = true) (hw : w[a]? = some (.inr (ci, fs))) (hl : k < fs.length) (hdg : decode (aw_c F) pc = .ok (.putfield index, 3)) (hw' : w.set a (.inr (ci, fs.set k v)) = w') (kk : AW G F kc ks w' (pc + 3) loc st Q) : AW G F kc ks w pc loc (v :: .ref a :: st) Q := by
  intro p e s m args below meth c adE nE hS H locs ls ad cells slots hD
  obtain ⟨hx, hb, hml, hr, hlk, hown, htab, hini, hO, hG⟩ := id hS
  obtain ⟨hP, hDD, hSS, hw0, hl0, hlo, hst, hkc, hks, hn9, h0E, had⟩ := id hD
  have hts := aw_hts hS
  subst href
  subst hw'
  refine va_putF (Ts := aw_ztb) (fs := fs.map (aw_v ad)) hx hb hts hin ty0 hty hnm hown (aw_hK hS) hP hDD hSS a (aw_w_some hw) hc k hk (hts _ hlink) (fun _ h9 => h9) hfin (hini hy) hdecl (hty k hk) (hn ad).1 (hn ad).2 (by rw [List.length_map]; exact hl) hdg (fun H1 locs1 hP1 hD1 hS1 => ?_)
  rw [aw_set_obj] at hP1 hD1
  refine kk p e s m args below meth c adE nE hS H1 locs1 ls ad cells slots (aw_D_put hD (by rw [List.length_set]) aw_d2 hP1 hD1 hS1 (aw_wok_set hw0 ?_))
  intro v1 hv1
  rcases List.mem_or_eq_of_mem_set hv1 with h | h
  · exact hw0 a _ hw v1 h
  · rw [h]; exact hst v List.mem_cons_self
theorem r_iaload {a n : Nat} {f : Nat → Int32} {i : Int32} (hw : w[a]? = some (.inl (0, n, .inl f))) (hi : vp_in i n) (hdg : decode (aw_c F) pc = .ok (.iaload, 1)) (kk : AW G F kc ks w (pc + 1) loc (.int (f i.toNatClampNeg) :: st) Q) : AW G F kc ks w pc loc (.int i :: .ref a :: st) Q := by
  intro p e s m args below meth c adE nE hS H locs ls ad cells slots hD
  obtain ⟨hx, hb, hml, hr, hlk, hown, htab, hini, hO, hG⟩ := id hS
  obtain ⟨hP, hDD, hSS, hw0, hl0, hlo, hst, hkc, hks, hn9, h0E, had⟩ := id hD
  exact va_iald hx hb (aw_hK hS) hP a 0 (aw_w_some hw) rfl hi hdg (kk p e s m args below meth c adE nE hS H locs ls ad cells slots (aw_D_st hD (aw_s2 aw_vok_int)))
theorem r_zaload {a n : Nat} {f : Nat → Int32} {i : Int32} (hw : w[a]? = some (.inl (1, n, .inl f))) (hi : vp_in i n) (hdg : decode (aw_c F) pc = .ok (.baload, 1)) (kk : AW G F kc ks w (pc + 1) loc (.int (f i.toNatClampNeg) :: st) Q) : AW G F kc ks w pc loc (.int i :: .ref a :: st) Q := by
  intro p e s m args below meth c adE nE hS H locs ls ad cells slots hD
  obtain ⟨hx, hb, hml, hr, hlk, hown, htab, hini, hO, hG⟩ := id hS
  obtain ⟨hP, hDD, hSS, hw0, hl0, hlo, hst, hkc, hks, hn9, h0E, had⟩ := id hD
  exact va_zald hx hb (aw_hK hS) hP a 1 (aw_w_some hw) rfl hi hdg (kk p e s m args below meth c adE nE hS H locs ls ad cells slots (aw_D_st hD (aw_s2 aw_vok_int)))
theorem r_caload {a n : Nat} {f : Nat → Int32} {i : Int32} (hw : w[a]? = some (.inl (2, n, .inl f))) (hi : vp_in i n) (hdg : decode (aw_c F) pc = .ok (.caload, 1)) (kk : AW G F kc ks w (pc + 1) loc (.int (f i.toNatClampNeg) :: st) Q) : AW G F kc ks w pc loc (.int i :: .ref a :: st) Q := by
  intro p e s m args below meth c adE nE hS H locs ls ad cells slots hD
  obtain ⟨hx, hb, hml, hr, hlk, hown, htab, hini, hO, hG⟩ := id hS
  obtain ⟨hP, hDD, hSS, hw0, hl0, hlo, hst, hkc, hks, hn9, h0E, had⟩ := id hD
  exact va_cald hx hb (aw_hK hS) hP a 2 (aw_w_some hw) rfl hi hdg (kk p e s m args below meth c adE nE hS H locs ls ad cells slots (aw_D_st hD (aw_s2 aw_vok_int)))
theorem r_laload {a n : Nat} {f : Nat → Int64} {i : Int32} (hw : w[a]? = some (.inl (3, n, .inr (.inl f)))) (hi : vp_in i n) (hdg : decode (aw_c F) pc = .ok (.laload, 1)) (kk : AW G F kc ks w (pc + 1) loc (.long (f i.toNatClampNeg) :: st) Q) : AW G F kc ks w pc loc (.int i :: .ref a :: st) Q := by
  intro p e s m args below meth c adE nE hS H locs ls ad cells slots hD
  obtain ⟨hx, hb, hml, hr, hlk, hown, htab, hini, hO, hG⟩ := id hS
  obtain ⟨hP, hDD, hSS, hw0, hl0, hlo, hst, hkc, hks, hn9, h0E, had⟩ := id hD
  exact va_lald hx hb (aw_hK hS) hP a 3 (aw_w_some hw) rfl hi hdg (kk p e s m args below meth c adE nE hS H locs ls ad cells slots (aw_D_st hD (aw_s2 aw_vok_long)))
theorem r_aaload {a n t : Nat} {f : Nat → Option Nat} {i : Int32} {C : String} (ht : ∀ cA : Nat → ClassId, (aw_tys cA)[t]? = some (cA t, .object C)) (hw : w[a]? = some (.inl (t, n, .inr (.inr (.inr (.inr f)))))) (hi : vp_in i n) (hdg : decode (aw_c F) pc = .ok (.aaload, 1)) (kk : AW G F kc ks w (pc + 1) loc (va_rf (f i.toNatClampNeg) :: st) Q) : AW G F kc ks w pc loc (.int i :: .ref a :: st) Q := by
  intro p e s m args below meth c adE nE hS H locs ls ad cells slots hD
  obtain ⟨hx, hb, hml, hr, hlk, hown, htab, hini, hO, hG⟩ := id hS
  obtain ⟨hP, hDD, hSS, hw0, hl0, hlo, hst, hkc, hks, hn9, h0E, had⟩ := id hD
  refine va_aldq hx hb (aw_hK hS) hP a t (aw_w_some hw) (ht _) hi hdg ?_
  have h := kk p e s m args below meth c adE nE hS H locs ls ad cells slots (aw_D_st hD (aw_s2 (aw_vok_rf (fun k hk => hw0 a _ hw f rfl _ k hk))))
  rw [List.map_cons, aw_v_rf] at h
  exact h
theorem r_iastore {a n : Nat} {f : Nat → Int32} {i : Int32} {x : Int32} {w' : List va_E} (hw : w[a]? = some (.inl (0, n, .inl f))) (hi : vp_in i n) (hdg : decode (aw_c F) pc = .ok (.iastore, 1)) (hw' : w.set a (.inl (0, n, .inl (upd f i.toNatClampNeg x))) = w') (kk : AW G F kc ks w' (pc + 1) loc st Q) : AW G F kc ks w pc loc (.int x :: .int i :: .ref a :: st) Q := by
  intro p e s m args below meth c adE nE hS H locs ls ad cells slots hD
  obtain ⟨hx, hb, hml, hr, hlk, hown, htab, hini, hO, hG⟩ := id hS
  obtain ⟨hP, hDD, hSS, hw0, hl0, hlo, hst, hkc, hks, hn9, h0E, had⟩ := id hD
  subst hw'
  refine va_iast hx hb (aw_hK hS) hP hDD hSS a 0 (aw_w_some hw) rfl hi hdg (fun H1 locs1 hP1 hD1 hS1 => ?_)
  have e9 := aw_w_set G.2.2.2.2.2.1 ad w a (.inl (0, n, .inl (upd f i.toNatClampNeg x)))
  exact kk p e s m args below meth c adE nE hS H1 locs1 ls ad cells slots (aw_D_put hD (by rw [List.length_set]) aw_d3 (e9 ▸ hP1) (e9 ▸ hD1) hS1 (aw_wok_set hw0 (fun f9 h9 => by cases h9)))
theorem r_zastore {a n : Nat} {f : Nat → Int32} {i : Int32} {x : Int32} {w' : List va_E} (hw : w[a]? = some (.inl (1, n, .inl f))) (hi : vp_in i n) (hdg : decode (aw_c F) pc = .ok (.bastore, 1)) (hw' : w.set a (.inl (1, n, .inl (upd f i.toNatClampNeg (vp_nar .boolean x)))) = w') (kk : AW G F kc ks w' (pc + 1) loc st Q) : AW G F kc ks w pc loc (.int x :: .int i :: .ref a :: st) Q := by
  intro p e s m args below meth c adE nE hS H locs ls ad cells slots hD
  obtain ⟨hx, hb, hml, hr, hlk, hown, htab, hini, hO, hG⟩ := id hS
  obtain ⟨hP, hDD, hSS, hw0, hl0, hlo, hst, hkc, hks, hn9, h0E, had⟩ := id hD
  subst hw'
  refine va_zast hx hb (aw_hK hS) hP hDD hSS a 1 (aw_w_some hw) rfl hi hdg (fun H1 locs1 hP1 hD1 hS1 => ?_)
  have e9 := aw_w_set G.2.2.2.2.2.1 ad w a (.inl (1, n, .inl (upd f i.toNatClampNeg (vp_nar .boolean x))))
  exact kk p e s m args below meth c adE nE hS H1 locs1 ls ad cells slots (aw_D_put hD (by rw [List.length_set]) aw_d3 (e9 ▸ hP1) (e9 ▸ hD1) hS1 (aw_wok_set hw0 (fun f9 h9 => by cases h9)))
theorem r_castore {a n : Nat} {f : Nat → Int32} {i : Int32} {x : Int32} {w' : List va_E} (hw : w[a]? = some (.inl (2, n, .inl f))) (hi : vp_in i n) (hdg : decode (aw_c F) pc = .ok (.castore, 1)) (hw' : w.set a (.inl (2, n, .inl (upd f i.toNatClampNeg (vp_nar .char x)))) = w') (kk : AW G F kc ks w' (pc + 1) loc st Q) : AW G F kc ks w pc loc (.int x :: .int i :: .ref a :: st) Q := by
  intro p e s m args below meth c adE nE hS H locs ls ad cells slots hD
  obtain ⟨hx, hb, hml, hr, hlk, hown, htab, hini, hO, hG⟩ := id hS
  obtain ⟨hP, hDD, hSS, hw0, hl0, hlo, hst, hkc, hks, hn9, h0E, had⟩ := id hD
  subst hw'
  refine va_cast hx hb (aw_hK hS) hP hDD hSS a 2 (aw_w_some hw) rfl hi hdg (fun H1 locs1 hP1 hD1 hS1 => ?_)
  have e9 := aw_w_set G.2.2.2.2.2.1 ad w a (.inl (2, n, .inl (upd f i.toNatClampNeg (vp_nar .char x))))
  exact kk p e s m args below meth c adE nE hS H1 locs1 ls ad cells slots (aw_D_put hD (by rw [List.length_set]) aw_d3 (e9 ▸ hP1) (e9 ▸ hD1) hS1 (aw_wok_set hw0 (fun f9 h9 => by cases h9)))
theorem r_lastore {a n : Nat} {f : Nat → Int64} {i : Int32} {x : Int64} {w' : List va_E} (hw : w[a]? = some (.inl (3, n, .inr (.inl (f))))) (hi : vp_in i n) (hdg : decode (aw_c F) pc = .ok (.lastore, 1)) (hw' : w.set a (.inl (3, n, .inr (.inl (vp_updL f i.toNatClampNeg x)))) = w') (kk : AW G F kc ks w' (pc + 1) loc st Q) : AW G F kc ks w pc loc (.long x :: .int i :: .ref a :: st) Q := by
  intro p e s m args below meth c adE nE hS H locs ls ad cells slots hD
  obtain ⟨hx, hb, hml, hr, hlk, hown, htab, hini, hO, hG⟩ := id hS
  obtain ⟨hP, hDD, hSS, hw0, hl0, hlo, hst, hkc, hks, hn9, h0E, had⟩ := id hD
  subst hw'
  refine va_last hx hb (aw_hK hS) hP hDD hSS a 3 (aw_w_some hw) rfl hi hdg (fun H1 locs1 hP1 hD1 hS1 => ?_)
  have e9 := aw_w_set G.2.2.2.2.2.1 ad w a (.inl (3, n, .inr (.inl (vp_updL f i.toNatClampNeg x))))
  exact kk p e s m args below meth c adE nE hS H1 locs1 ls ad cells slots (aw_D_put hD (by rw [List.length_set]) aw_d3 (e9 ▸ hP1) (e9 ▸ hD1) hS1 (aw_wok_set hw0 (fun f9 h9 => by cases h9)))
theorem r_aastore {a n t v ci : Nat} {f : Nat → Option Nat} {i : Int32} {r : vw_C} {vs : List Value} {w' : List va_E} (ht : ∀ cA : Nat → ClassId, (aw_tys cA)[t]? = some (cA t, .object r.1)) (hw : w[a]? = some (.inl (t, n, .inr (.inr (.inr (.inr f)))))) (hv : w[v]? = some (.inr (ci, vs))) (hc : vwCl[ci]? = some r) (hi : vp_in i n) (hdg : decode (aw_c F) pc = .ok (.aastore, 1)) (hw' : w.set a (.inl (t, n, .inr (.inr (.inr (.inr (va_up f i.toNatClampNeg (some v))))))) = w') (kk : AW G F kc ks w' (pc + 1) loc st Q) : AW G F kc ks w pc loc (.ref v :: .int i :: .ref a :: st) Q := by
  intro p e s m args below meth c adE nE hS H locs ls ad cells slots hD
  obtain ⟨hx, hb, hml, hr, hlk, hown, htab, hini, hO, hG⟩ := id hS
  obtain ⟨hP, hDD, hSS, hw0, hl0, hlo, hst, hkc, hks, hn9, h0E, had⟩ := id hD
  subst hw'
  refine va_astq hx hb (aw_hK hS) hP hDD hSS a t v ci (aw_w_some hw) (ht _) (aw_w_some hv) hc hi hdg (fun H1 locs1 hP1 hD1 hS1 => ?_)
  have e9 : (aw_w G.2.2.2.2.2.1 ad w).set a (ad (a + 1), Sum.inl (G.2.2.2.2.2.1 t, n, Sum.inr (Sum.inr (Sum.inr (Sum.inr (va_up (fun j => (f j).map (fun k => ad (k + 1))) i.toNatClampNeg (some (ad (v + 1))))))))) = aw_w G.2.2.2.2.2.1 ad (w.set a (.inl (t, n, .inr (.inr (.inr (.inr (va_up f i.toNatClampNeg (some v)))))))) := by
    rw [← aw_w_set, ← show (fun j => (va_up f i.toNatClampNeg (some v) j).map (fun k => ad (k + 1))) = va_up (fun j => (f j).map (fun k => ad (k + 1))) i.toNatClampNeg (some (ad (v + 1))) from aw_up_map ad f _ (some v)]
    rfl
  exact kk p e s m args below meth c adE nE hS H1 locs1 ls ad cells slots (aw_D_put hD (by rw [List.length_set]) aw_d3 (e9 ▸ hP1) (e9 ▸ hD1) hS1 (aw_wok_set hw0 (fun f9 h9 j k hk => by
    cases h9
    unfold va_up at hk
    by_cases hj : j = i.toNatClampNeg
    · rw [if_pos hj] at hk; cases hk; exact hst _ List.mem_cons_self v rfl
    · rw [if_neg hj] at hk; exact hw0 a _ hw f rfl j k hk)))
theorem r_aastoreN {a n t : Nat} {f : Nat → Option Nat} {i : Int32} {C : String} {w' : List va_E} (ht : ∀ cA : Nat → ClassId, (aw_tys cA)[t]? = some (cA t, .object C)) (hw : w[a]? = some (.inl (t, n, .inr (.inr (.inr (.inr f)))))) (hi : vp_in i n) (hdg : decode (aw_c F) pc = .ok (.aastore, 1)) (hw' : w.set a (.inl (t, n, .inr (.inr (.inr (.inr (va_up f i.toNatClampNeg none)))))) = w') (kk : AW G F kc ks w' (pc + 1) loc st Q) : AW G F kc ks w pc loc (.null :: .int i :: .ref a :: st) Q := by
  intro p e s m args below meth c adE nE hS H locs ls ad cells slots hD
  obtain ⟨hx, hb, hml, hr, hlk, hown, htab, hini, hO, hG⟩ := id hS
  obtain ⟨hP, hDD, hSS, hw0, hl0, hlo, hst, hkc, hks, hn9, h0E, had⟩ := id hD
  subst hw'
  refine va_astqN hx hb (aw_hK hS) hP hDD hSS a t (aw_w_some hw) (ht _) hi hdg (fun H1 locs1 hP1 hD1 hS1 => ?_)
  have e9 : (aw_w G.2.2.2.2.2.1 ad w).set a (ad (a + 1), Sum.inl (G.2.2.2.2.2.1 t, n, Sum.inr (Sum.inr (Sum.inr (Sum.inr (va_up (fun j => (f j).map (fun k => ad (k + 1))) i.toNatClampNeg none)))))) = aw_w G.2.2.2.2.2.1 ad (w.set a (.inl (t, n, .inr (.inr (.inr (.inr (va_up f i.toNatClampNeg none))))))) := by
    rw [← aw_w_set, ← show (fun j => (va_up f i.toNatClampNeg none j).map (fun k => ad (k + 1))) = va_up (fun j => (f j).map (fun k => ad (k + 1))) i.toNatClampNeg none from aw_up_map ad f _ none]
    rfl
  exact kk p e s m args below meth c adE nE hS H1 locs1 ls ad cells slots (aw_D_put hD (by rw [List.length_set]) aw_d3 (e9 ▸ hP1) (e9 ▸ hD1) hS1 (aw_wok_set hw0 (fun f9 h9 j k hk => by
    cases h9
    unfold va_up at hk
    by_cases hj : j = i.toNatClampNeg
    · rw [if_pos hj] at hk; cases hk
    · rw [if_neg hj] at hk; exact hw0 a _ hw f rfl j k hk)))
theorem r_alen {a t : Nat} {x : vp_A} {ty : FieldType} {v : Int32} (ht : ∀ cA : Nat → ClassId, (aw_tys cA)[t]? = some (cA t, ty)) (hw : w[a]? = some (.inl (t, x))) (hv : Int32.ofNat x.1 = v) (hdg : decode (aw_c F) pc = .ok (.arraylength, 1)) (kk : AW G F kc ks w (pc + 1) loc (.int v :: st) Q) : AW G F kc ks w pc loc (.ref a :: st) Q := by
  intro p e s m args below meth c adE nE hS H locs ls ad cells slots hD
  obtain ⟨hx, hb, hml, hr, hlk, hown, htab, hini, hO, hG⟩ := id hS
  obtain ⟨hP, hDD, hSS, hw0, hl0, hlo, hst, hkc, hks, hn9, h0E, had⟩ := id hD
  exact va_alen hx hb (aw_hK hS) hP a t (aw_w_some hw) (ht _) hv hdg (kk p e s m args below meth c adE nE hS H locs ls ad cells slots (aw_D_st hD (aw_s1 aw_vok_int)))
theorem r_new {ci index N kc' ks' : Nat} {C : String} {T : u_T} {ty0 : Nat → FieldType} {fs : List Value} (hc : vwCl[ci]? = some (C, T, N)) (hin : ∀ z ∈ u_ws C T N, z ∈ aw_ztb) (hty : ∀ k, k < N → parseFieldDescriptor (T k).2.2.1 = some (ty0 k)) (hcl : Cond.classLink (aw_own F) index C ∈ aw_ztb) (hinst : Cond.instantiable C N ∈ aw_ztb) (hini9 : Cond.initialized C ∈ aw_ztb) (hfs : ∀ j, j < N → defaultValue (ty0 j) = vp_V fs j) (hfa : ∀ ad : Nat → Nat, fs.map (aw_v ad) = fs) (hfo : ∀ n : Nat, aw_eok n (.inr (ci, fs))) (hkc9 : kc' + 1 ≤ kc) (hks9 : ks' + N ≤ ks) (hdg : decode (aw_c F) pc = .ok (.new index, 3)) (kk : AW G F kc' ks' (w ++ [.inr (ci, fs)]) (pc + 3) loc (.ref w.length :: st) Q) : AW G F kc ks w pc loc st Q := by
  intro p e s m args below meth c adE nE hS H locs ls ad cells slots hD
  obtain ⟨hx, hb, hml, hr, hlk, hown, htab, hini, hO, hG⟩ := id hS
  obtain ⟨hP, hDD, hSS, hw0, hl0, hlo, hst, hkc, hks, hn9, h0E, had⟩ := id hD
  have hts := aw_hts hS
  refine va_new (ci := ci) (fs := fs) (Ts := aw_ztb) hx hb hts hin ty0 hty hown (hts _ hcl) (hts _ hinst) (hts _ hini9) (aw_hK hS) hP hDD hSS (aw_hA hS) hc hfs (show cells + 1 ≤ aw_mc F by omega) (show slots + N ≤ aw_ms F by omega) hdg (fun q H1 hP1 hD1 hS1 => ?_)
  have e9 : aw_e G.2.2.2.2.2.1 ad (.inr (ci, fs)) = .inr (ci, fs) := by
    show Sum.inr (ci, fs.map (aw_v ad)) = _
    rw [hfa]
  rw [← e9] at hP1 hD1
  rw [aw_push_st (e := .inr (ci, fs)) hst]
  exact kk p e s m args below meth c adE nE hS H1 locs ls (va_up ad (w.length + 1) q) (cells + 1) (slots + N) (aw_D_push hD (hfo _) hkc9 hks9 hP1 hD1 hS1 (aw_s0 (aw_vok_ref aw_push_len)))
theorem r_new_int {kc' ks' N : Nat} {n : Int32} (harr : Cond.arrayClass .int ∈ aw_ztb) (hn : ¬ n < 0) (hN : n.toNatClampNeg = N) (hby : N * componentBytes .int ≤ 536870912) (hkc9 : kc' + 1 ≤ kc) (hks9 : ks' + N ≤ ks) (hdg : decode (aw_c F) pc = .ok (.newarray .int, 2)) (kk : AW G F kc' ks' (w ++ [.inl (0, N, .inl (fun _ => 0))]) (pc + 2) loc (.ref w.length :: st) Q) : AW G F kc ks w pc loc (.int n :: st) Q := by
  intro p e s m args below meth c adE nE hS H locs ls ad cells slots hD
  obtain ⟨hx, hb, hml, hr, hlk, hown, htab, hini, hO, hG⟩ := id hS
  obtain ⟨hP, hDD, hSS, hw0, hl0, hlo, hst, hkc, hks, hn9, h0E, had⟩ := id hD
  have hts := aw_hts hS
  refine va_newa (atype := .int) (ty := .int) (a0 := (N, .inl (fun _ => 0))) hx hb (hts _ harr) rfl (aw_hK hS) hP hDD hSS (aw_hA hS) (fun _ => rfl) hn hN hby (show cells + 1 ≤ aw_mc F by omega) (show slots + N ≤ aw_ms F by omega) hdg (fun q c1 H1 hK1 hP1 hD1 hS1 => ?_)
  have e8 := aw_ty_eq 0 rfl (aw_hK hS) hK1
  subst e8
  rw [aw_push_st (e := .inl (0, N, .inl (fun _ => 0))) (fun v hv => hst v (List.mem_cons_of_mem _ hv))]
  exact kk p e s m args below meth c adE nE hS H1 locs ls (va_up ad (w.length + 1) q) (cells + 1) (slots + N) (aw_D_push (e := .inl (0, N, .inl (fun _ => 0))) hD (fun f9 h9 => by cases h9) hkc9 hks9 hP1 hD1 hS1 (aw_s1 (aw_vok_ref aw_push_len)))
theorem r_new_boolean {kc' ks' N : Nat} {n : Int32} (harr : Cond.arrayClass .boolean ∈ aw_ztb) (hn : ¬ n < 0) (hN : n.toNatClampNeg = N) (hby : N * componentBytes .boolean ≤ 536870912) (hkc9 : kc' + 1 ≤ kc) (hks9 : ks' + N ≤ ks) (hdg : decode (aw_c F) pc = .ok (.newarray .boolean, 2)) (kk : AW G F kc' ks' (w ++ [.inl (1, N, .inl (fun _ => 0))]) (pc + 2) loc (.ref w.length :: st) Q) : AW G F kc ks w pc loc (.int n :: st) Q := by
  intro p e s m args below meth c adE nE hS H locs ls ad cells slots hD
  obtain ⟨hx, hb, hml, hr, hlk, hown, htab, hini, hO, hG⟩ := id hS
  obtain ⟨hP, hDD, hSS, hw0, hl0, hlo, hst, hkc, hks, hn9, h0E, had⟩ := id hD
  have hts := aw_hts hS
  refine va_newa (atype := .boolean) (ty := .boolean) (a0 := (N, .inl (fun _ => 0))) hx hb (hts _ harr) rfl (aw_hK hS) hP hDD hSS (aw_hA hS) (fun _ => rfl) hn hN hby (show cells + 1 ≤ aw_mc F by omega) (show slots + N ≤ aw_ms F by omega) hdg (fun q c1 H1 hK1 hP1 hD1 hS1 => ?_)
  have e8 := aw_ty_eq 1 rfl (aw_hK hS) hK1
  subst e8
  rw [aw_push_st (e := .inl (1, N, .inl (fun _ => 0))) (fun v hv => hst v (List.mem_cons_of_mem _ hv))]
  exact kk p e s m args below meth c adE nE hS H1 locs ls (va_up ad (w.length + 1) q) (cells + 1) (slots + N) (aw_D_push (e := .inl (1, N, .inl (fun _ => 0))) hD (fun f9 h9 => by cases h9) hkc9 hks9 hP1 hD1 hS1 (aw_s1 (aw_vok_ref aw_push_len)))
theorem r_new_char {kc' ks' N : Nat} {n : Int32} (harr : Cond.arrayClass .char ∈ aw_ztb) (hn : ¬ n < 0) (hN : n.toNatClampNeg = N) (hby : N * componentBytes .char ≤ 536870912) (hkc9 : kc' + 1 ≤ kc) (hks9 : ks' + N ≤ ks) (hdg : decode (aw_c F) pc = .ok (.newarray .char, 2)) (kk : AW G F kc' ks' (w ++ [.inl (2, N, .inl (fun _ => 0))]) (pc + 2) loc (.ref w.length :: st) Q) : AW G F kc ks w pc loc (.int n :: st) Q := by
  intro p e s m args below meth c adE nE hS H locs ls ad cells slots hD
  obtain ⟨hx, hb, hml, hr, hlk, hown, htab, hini, hO, hG⟩ := id hS
  obtain ⟨hP, hDD, hSS, hw0, hl0, hlo, hst, hkc, hks, hn9, h0E, had⟩ := id hD
  have hts := aw_hts hS
  refine va_newa (atype := .char) (ty := .char) (a0 := (N, .inl (fun _ => 0))) hx hb (hts _ harr) rfl (aw_hK hS) hP hDD hSS (aw_hA hS) (fun _ => rfl) hn hN hby (show cells + 1 ≤ aw_mc F by omega) (show slots + N ≤ aw_ms F by omega) hdg (fun q c1 H1 hK1 hP1 hD1 hS1 => ?_)
  have e8 := aw_ty_eq 2 rfl (aw_hK hS) hK1
  subst e8
  rw [aw_push_st (e := .inl (2, N, .inl (fun _ => 0))) (fun v hv => hst v (List.mem_cons_of_mem _ hv))]
  exact kk p e s m args below meth c adE nE hS H1 locs ls (va_up ad (w.length + 1) q) (cells + 1) (slots + N) (aw_D_push (e := .inl (2, N, .inl (fun _ => 0))) hD (fun f9 h9 => by cases h9) hkc9 hks9 hP1 hD1 hS1 (aw_s1 (aw_vok_ref aw_push_len)))
theorem r_new_long {kc' ks' N : Nat} {n : Int32} (harr : Cond.arrayClass .long ∈ aw_ztb) (hn : ¬ n < 0) (hN : n.toNatClampNeg = N) (hby : N * componentBytes .long ≤ 536870912) (hkc9 : kc' + 1 ≤ kc) (hks9 : ks' + N ≤ ks) (hdg : decode (aw_c F) pc = .ok (.newarray .long, 2)) (kk : AW G F kc' ks' (w ++ [.inl (3, N, .inr (.inl (fun _ => 0)))]) (pc + 2) loc (.ref w.length :: st) Q) : AW G F kc ks w pc loc (.int n :: st) Q := by
  intro p e s m args below meth c adE nE hS H locs ls ad cells slots hD
  obtain ⟨hx, hb, hml, hr, hlk, hown, htab, hini, hO, hG⟩ := id hS
  obtain ⟨hP, hDD, hSS, hw0, hl0, hlo, hst, hkc, hks, hn9, h0E, had⟩ := id hD
  have hts := aw_hts hS
  refine va_newa (atype := .long) (ty := .long) (a0 := (N, .inr (.inl (fun _ => 0)))) hx hb (hts _ harr) rfl (aw_hK hS) hP hDD hSS (aw_hA hS) (fun _ => rfl) hn hN hby (show cells + 1 ≤ aw_mc F by omega) (show slots + N ≤ aw_ms F by omega) hdg (fun q c1 H1 hK1 hP1 hD1 hS1 => ?_)
  have e8 := aw_ty_eq 3 rfl (aw_hK hS) hK1
  subst e8
  rw [aw_push_st (e := .inl (3, N, .inr (.inl (fun _ => 0)))) (fun v hv => hst v (List.mem_cons_of_mem _ hv))]
  exact kk p e s m args below meth c adE nE hS H1 locs ls (va_up ad (w.length + 1) q) (cells + 1) (slots + N) (aw_D_push (e := .inl (3, N, .inr (.inl (fun _ => 0)))) hD (fun f9 h9 => by cases h9) hkc9 hks9 hP1 hD1 hS1 (aw_s1 (aw_vok_ref aw_push_len)))
theorem r_newq {t index kc' ks' N : Nat} {n : Int32} {C : String} (ht : ∀ cA : Nat → ClassId, (aw_tys cA)[t]? = some (cA t, .object C)) (hcl : Cond.classLink (aw_own F) index C ∈ aw_ztb) (hover : Cond.arrayOver (.object C) ∈ lw_tbl) (hn : ¬ n < 0) (hN : n.toNatClampNeg = N) (hby : N * 4 ≤ 536870912) (hkc9 : kc' + 1 ≤ kc) (hks9 : ks' + N ≤ ks) (hdg : decode (aw_c F) pc = .ok (.anewarray index, 3)) (kk : AW G F kc' ks' (w ++ [.inl (t, N, .inr (.inr (.inr (.inr (fun _ => none)))))]) (pc + 3) loc (.ref w.length :: st) Q) : AW G F kc ks w pc loc (.int n :: st) Q := by
  intro p e s m args below meth c adE nE hS H locs ls ad cells slots hD
  obtain ⟨hx, hb, hml, hr, hlk, hown, htab, hini, hO, hG⟩ := id hS
  obtain ⟨hP, hDD, hSS, hw0, hl0, hlo, hst, hkc, hks, hn9, h0E, had⟩ := id hD
  have hts := aw_hts hS
  refine va_newq hx hb hown (hts _ hcl) (va_AO.moved hO.1.alike (va_AO.of (hG.2.1 _ hover))) (aw_hK hS) hP hDD hSS (aw_hA hS) hn hN hby (show cells + 1 ≤ aw_mc F by omega) (show slots + N ≤ aw_ms F by omega) hdg (fun q c1 H1 hK1 hP1 hD1 hS1 => ?_)
  have e8 := aw_ty_eq t (ht _) (aw_hK hS) hK1
  subst e8
  rw [aw_push_st (e := .inl (t, N, .inr (.inr (.inr (.inr (fun _ => none)))))) (fun v hv => hst v (List.mem_cons_of_mem _ hv))]
  exact kk p e s m args below meth c adE nE hS H1 locs ls (va_up ad (w.length + 1) q) (cells + 1) (slots + N) (aw_D_push (e := .inl (t, N, .inr (.inr (.inr (.inr (fun _ => none)))))) hD (fun f9 h9 j k hk => by cases h9; cases hk) hkc9 hks9 hP1 hD1 hS1 (aw_s1 (aw_vok_ref aw_push_len)))
theorem r_castI {a index n : Nat} {f : Nat → Int32} (hcl : Cond.classLink (aw_own F) index "[I" ∈ aw_ztb) (hw : w[a]? = some (.inl (0, n, .inl f))) (hdg : decode (aw_c F) pc = .ok (.checkcast index, 3)) (kk : AW G F kc ks w (pc + 3) loc (.ref a :: st) Q) : AW G F kc ks w pc loc (.ref a :: st) Q := by
  intro p e s m args below meth c adE nE hS H locs ls ad cells slots hD
  obtain ⟨hx, hb, hml, hr, hlk, hown, htab, hini, hO, hG⟩ := id hS
  obtain ⟨hP, hDD, hSS, hw0, hl0, hlo, hst, hkc, hks, hn9, h0E, had⟩ := id hD
  have hts := aw_hts hS
  have h1 : s.vm.findClass "[I" = some (G.2.2.2.2.2.1 0) := ((aw_hK hS).2 0 _ rfl).2
  exact va_castA hx hb hown (hts _ hcl) hP a (aw_w_some hw) h1 hdg (kk p e s m args below meth c adE nE hS H locs ls ad cells slots hD)
theorem r_cloneI {a index n kc' ks' : Nat} {f : Nat → Int32} (hw : w[a]? = some (.inl (0, n, .inl f))) (hlink : Cond.methodLink (aw_own F) index ⟨"[I", "clone", "()Ljava/lang/Object;"⟩ ∈ aw_ztb) (hsame : Cond.sameMethod "[I" "java/lang/Object" "clone" "()Ljava/lang/Object;" ∈ aw_ztb) (hnat : Cond.native ⟨"java/lang/Object", "clone", "()Ljava/lang/Object;"⟩ ∈ aw_ztb) (hinst : Cond.instanceMethod ⟨"java/lang/Object", "clone", "()Ljava/lang/Object;"⟩ ∈ aw_ztb) (hsel : Cond.selects "[I" ⟨"[I", "clone", "()Ljava/lang/Object;"⟩ ⟨"java/lang/Object", "clone", "()Ljava/lang/Object;"⟩ ∈ aw_ztb) (hca : Cond.castable "[I" "java/lang/Cloneable" ∈ lw_tbl)
    (hfr : 1 ≤ aw_fr F) (hlo9 : (st.map fun v => v.category).sum + 14 ≤ aw_lo F) (hkc9 : kc' + 1 ≤ kc) (hks9 : ks' + n ≤ ks) (hdg : decode (aw_c F) pc = .ok (.invokevirtual index, 3)) (kk : AW G F kc' ks' (w ++ [.inl (0, n, .inl f)]) (pc + 3) loc (.ref w.length :: st) Q) : AW G F kc ks w pc loc (.ref a :: st) Q := by
  intro p e s m args below meth c adE nE hS H locs ls ad cells slots hD
  obtain ⟨hx, hb, hml, hr, hlk, hown, htab, hini, hO, hG⟩ := id hS
  obtain ⟨hP, hDD, hSS, hw0, hl0, hlo, hst, hkc, hks, hn9, h0E, had⟩ := id hD
  have hts := aw_hts hS
  have h1 : s.vm.findClass "[I" = some (G.2.2.2.2.2.1 0) := ((aw_hK hS).2 0 _ rfl).2
  refine va_clone (x := (n, .inl f)) (ty := .int) hx hb (hml.trans hl0.1.symm) hown (hts _ hlink) (hts _ hsame) (hts _ hnat) (hts _ hinst) (hts _ hsel) (va_Nw.warmC hO.1 (va_Nw.of rfl (hG.2.1 _ hca))) (aw_hK hS) hP hDD hSS (aw_hA hS) a 0 (aw_w_some hw) rfl h1 (fun i v hv => ?_) hfr (by rw [aw_cats]; exact hlo9) (show cells + 1 ≤ aw_mc F by omega) (show slots + n ≤ aw_ms F by omega) hdg (fun q H1 hK1 hP1 hD1 hS1 => ?_)
  · have h2 : (arrV (G.2.2.2.2.2.1 0) n (fun j => Value.int (f j))).slots[i]? = some v := hv
    simp only [arrV] at h2
    rw [Array.getElem?_ofFn] at h2
    split at h2
    · cases h2; rfl
    · cases h2
  · rw [aw_push_st (e := .inl (0, n, .inl f)) (fun v hv => hst v (List.mem_cons_of_mem _ hv))]
    exact kk p e s m args below meth c adE nE hS H1 locs ls (va_up ad (w.length + 1) q) (cells + 1) (slots + n) (aw_D_push (e := .inl (0, n, .inl f)) hD (fun f9 h9 => by cases h9) hkc9 hks9 hP1 hD1 hS1 (aw_s1 (aw_vok_ref aw_push_len)))
theorem r_copyI {a a0 index n0 n1 : Nat} {f g : Nat → Int32} {sp dp n : Int32} {w' : List va_E} (ha0 : w[a0]? = some (.inl (0, n0, .inl f))) (ha1 : w[a]? = some (.inl (0, n1, .inl g))) (hlink : Cond.methodLink (aw_own F) index arraycopyName ∈ aw_ztb) (hnat : Cond.native arraycopyName ∈ aw_ztb) (hstat : Cond.static arraycopyName ∈ aw_ztb) (hini9 : Cond.initialized "java/lang/System" ∈ aw_ztb) (h1 : ¬ sp < 0) (h2 : ¬ dp < 0) (h3 : ¬ n < 0) (h4 : sp.toNatClampNeg + n.toNatClampNeg ≤ n0) (h5 : dp.toNatClampNeg + n.toNatClampNeg ≤ n1)
    (hfr : 1 ≤ aw_fr F) (hlo9 : (st.map fun v => v.category).sum + (nativeFrameWords "java/lang/System" "arraycopy" 5 + 11) ≤ aw_lo F) (hdg : decode (aw_c F) pc = .ok (.invokestatic index, 3)) (hw' : w.set a (.inl (0, n1, .inl (va_cpy f g sp.toNatClampNeg dp.toNatClampNeg n.toNatClampNeg))) = w') (kk : AW G F kc ks w' (pc + 3) loc st Q) : AW G F kc ks w pc loc (.int n :: .int dp :: .ref a :: .int sp :: .ref a0 :: st) Q := by
  intro p e s m args below meth c adE nE hS H locs ls ad cells slots hD
  obtain ⟨hx, hb, hml, hr, hlk, hown, htab, hini, hO, hG⟩ := id hS
  obtain ⟨hP, hDD, hSS, hw0, hl0, hlo, hst, hkc, hks, hn9, h0E, had⟩ := id hD
  have hts := aw_hts hS
  subst hw'
  refine va_copyi (ty := .int) hx hb (hml.trans hl0.1.symm) hown (hts _ hlink) (hts _ hnat) (hts _ hstat) (hts _ hini9) (aw_hK hS) hP hDD hSS a0 a 0 0 (aw_w_some ha0) (aw_w_some ha1) rfl rfl rfl h1 h2 h3 h4 h5 (fun _ _ => rfl) hfr (by rw [aw_cats]; exact hlo9) hdg (fun H1 locs1 hP1 hD1 hS1 => ?_)
  have e9 := aw_w_set G.2.2.2.2.2.1 ad w a (.inl (0, n1, .inl (va_cpy f g sp.toNatClampNeg dp.toNatClampNeg n.toNatClampNeg)))
  exact kk p e s m args below meth c adE nE hS H1 locs1 ls ad cells slots (aw_D_put hD (by rw [List.length_set]) (fun h => aw_d3 (aw_d2 h)) (e9 ▸ hP1) (e9 ▸ hD1) hS1 (aw_wok_set hw0 (fun f9 h9 => by cases h9)))
end AWk
