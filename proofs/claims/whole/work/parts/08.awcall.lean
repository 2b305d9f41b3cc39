/-! ===== AW: a method's entry and its ends; calls; throws ===== -/
theorem aw_old_of {G : aw_G} {s t : State} {H : Heap} {locs : List Loc} (hO : aw_old G s) (hS : va_S (aw_A G) s.heap H locs) (ht : t.heap = H) : aw_oldh G t := by
  refine ⟨by rw [ht]; exact Nat.le_trans hO.2.1 hS.1, fun q hq => ?_⟩
  rw [ht, hS.2.1 q (Nat.lt_of_lt_of_le hq hO.2.1) (Nat.not_le.mpr hq)]
  exact hO.2.2 q hq
theorem aw_hh_tab {F : aw_F} {c : Code} (htab : c.exceptionTable.toList = tableOf (aw_hh F)) (hh : aw_hh F = []) {pc : Nat} : ∀ x ∈ c.exceptionTable.toList, covers x pc = false := by
  rw [htab, hh]
  intro x hx
  cases hx
section AWe
variable {G : aw_G} {F : aw_F} {kc ks : Nat} {w : List va_E} {pc : Nat} {loc : List (Option Value)} {st : List Value} {Q : aw_R → List va_E → Prop}
/-- fewer locals, less room -/
theorem AW_weak {loc' : List (Option Value)} {kc' ks' : Nat} (h1 : kc' ≤ kc) (h2 : ks' ≤ ks) (hl : ∀ (i : Nat) (v : Value), loc'[i]? = some (some v) → loc[i]? = some (some v)) (k : AW G F kc' ks' w pc loc' st Q) : AW G F kc ks w pc loc st Q := by
  intro p e s m args below meth c adE nE hS H locs ls ad cells slots hD
  obtain ⟨hP, hDD, hSS, hw0, hl0, hlo, hst, hkc, hks, hn9, h0E, had⟩ := hD
  exact k p e s m args below meth c adE nE hS H locs ls ad cells slots ⟨hP, hDD, hSS, hw0, aw_l_drop hl0 hl, fun i v h => hlo i v (hl i v h), hst, by omega, by omega, hn9, h0E, had⟩
theorem AW_post {Q' : aw_R → List va_E → Prop} (h : ∀ r w', Q' r w' → Q r w') (k : AW G F kc ks w pc loc st Q') : AW G F kc ks w pc loc st Q := by
  intro p e s m args below meth c adE nE hS H locs ls ad cells slots hD
  intro T hT X
  obtain ⟨t, a1, o, b1, b2, b3⟩ := k p e s m args below meth c adE nE hS H locs ls ad cells slots hD T hT X
  refine ⟨t, a1, o, b1, b2, ?_⟩
  rcases b3 with ⟨⟨r, w', ad', c1, c2, c3⟩, d⟩ | ⟨q, c1, E, ce, L, ⟨w', ad', c2, c3⟩, d⟩
  · exact Or.inl ⟨⟨r, w', ad', c1, h _ _ c2, c3⟩, d⟩
  · exact Or.inr ⟨q, c1, E, ce, L, ⟨w', ad', h _ _ c2, c3⟩, d⟩
theorem AW_pc {pc' : Nat} (h : pc' = pc) (k : AW G F kc ks w pc' loc st Q) : AW G F kc ks w pc loc st Q := h ▸ k
end AWe
section AWo
variable {G : aw_G} {F : aw_F} {as : List Value} {w : List va_E} {Q : aw_R → List va_E → Prop}
theorem aw_entry {ad : Nat → Nat} {n : Nat} (hlen : as.length ≤ n) (hc : ∀ v ∈ as, v.category = 1) : lv_has ((lg_sl (as.map (aw_v ad)) ++ List.replicate (n - (lg_sl (as.map (aw_v ad))).length) Slot.unset).toArray) n (aw_l ad (as.map some ++ List.replicate (n - as.length) none)) := by
  have hc2 : ∀ v ∈ as.map (aw_v ad), v.category = 1 := fun v hv => by
    obtain ⟨u, hu, rfl⟩ := List.mem_map.mp hv
    rw [aw_v_cat]; exact hc u hu
  have h := lv_entry (as.map (aw_v ad)) (n := n) (by rw [aw_slen _ hc2, List.length_map]; exact hlen)
  refine ⟨h.1, h.2.1, fun q hq => ?_⟩
  obtain ⟨v, h1, h2⟩ := aw_l_mem.mp hq
  have h3 : as[q.1]? = some v := by
    by_cases hl : q.1 < (as.map (some : Value → Option Value)).length
    · rw [List.getElem?_append_left hl, List.getElem?_map] at h1
      cases h9 : as[q.1]? with
      | none => rw [h9] at h1; cases h1
      | some u => rw [h9] at h1; cases h1; rfl
    · rw [List.getElem?_append_right (Nat.le_of_not_lt hl), List.getElem?_replicate] at h1
      split at h1 <;> cases h1
  have h4 : (as.map (aw_v ad))[q.1]? = some (aw_v ad v) := by rw [List.getElem?_map, h3]; rfl
  have h5 := aw_args (as.map (aw_v ad)) 0 hc2 q.1 (aw_v ad v) h4
  rw [Nat.zero_add] at h5
  have h6 := h.2.2 _ h5
  rw [h2]
  exact h6
theorem aw_entry_ok {n m : Nat} (hc : ∀ v ∈ as, aw_vok n v ∧ v.category = 1) : aw_lok n (as.map some ++ List.replicate m none) := by
  intro i v h1
  by_cases hl : i < (as.map (some : Value → Option Value)).length
  · rw [List.getElem?_append_left hl, List.getElem?_map] at h1
    cases h9 : as[i]? with
    | none => rw [h9] at h1; cases h1
    | some u => rw [h9] at h1; cases h1; exact hc _ (List.mem_of_getElem? h9)
  · rw [List.getElem?_append_right (Nat.le_of_not_lt hl), List.getElem?_replicate] at h1
    split at h1 <;> cases h1
theorem AM_of (hpl : plainName (aw_y F).cls = true) (hown : (aw_y F).cls = aw_own F) (hh : aw_hh F = []) (hlen : as.length ≤ aw_nL F) (k : AW G F (aw_mc F) (aw_ms F) w 0 (as.map some ++ List.replicate (aw_nL F - as.length) none) [] Q) : AM G F as w Q := by
  intro hG ad h0E has
  have hcode : aw_code F = .code (aw_y F) (aw_c F) (aw_nL F) (aw_rt F) := by unfold aw_code; rw [hh]
  refine vx_ofW (cc := aw_c F) (maxL := aw_nL F) (ret := aw_rt F) (ws' := []) hpl (by rw [hcode]) ?_
  intro p e s m args below meth c s₁ B hml htab hv
  obtain ⟨rfl, hB, hBh⟩ := hv
  rw [lg_entry_eq]
  have htab2 : c.exceptionTable.toList = tableOf (aw_hh F) := by
    rw [hh]
    exact List.eq_nil_iff_forall_not_mem.mpr fun x hx => htab x hx
  refine k p e s m _ below meth c ad w.length ⟨B.exec, B.bytes, hml, B.returns, B.notSynchronized, ?_, htab2, fun hy => ?_, ⟨hB, hBh.1.1, hBh.1.2⟩, hG⟩ s.heap [] _ ad 0 0 ⟨hBh.2.1, hBh.2.2.1, va_S.rf, hBh.2.2.2, aw_entry hlen (fun v hv => (has v hv).2), aw_entry_ok has, (fun v hv => nomatch hv), by omega, by omega, Nat.le_refl _, h0E, fun _ _ => rfl⟩
  · rw [← hown]; exact findClass_of_methodNamed B.named
  · rw [(name_of_methodNamed B.named B.method).1]; exact hy
theorem AM_ofH (hpl : plainName (aw_y F).cls = true) (hown : (aw_y F).cls = aw_own F) {q0 : Nat × Nat × Nat × Nat} {qs : List (Nat × Nat × Nat × Nat)} (hh : aw_hh F = q0 :: qs) (hlen : as.length ≤ aw_nL F) (k : AW G F (aw_mc F) (aw_ms F) w 0 (as.map some ++ List.replicate (aw_nL F - as.length) none) [] Q) : AM G F as w Q := by
  intro hG ad h0E has
  have hcode : aw_code F = .codeWith (aw_y F) (aw_c F) (aw_nL F) (aw_rt F) (aw_hh F) := by unfold aw_code; rw [hh]
  refine vx_ofWH (cc := aw_c F) (maxL := aw_nL F) (ret := aw_rt F) (hh := aw_hh F) (ws' := []) hpl (by rw [hcode]) ?_
  intro p e s m args below meth c s₁ B hml hv
  obtain ⟨rfl, hB, hBh⟩ := hv
  have htab2 := vx_table (x := aw_y F) B (atoms_spec (ws := [aw_code F]) B.pre _ (by rw [hcode]; exact List.mem_cons_self))
  rw [lg_entry_eq]
  refine k p e s m _ below meth c ad w.length ⟨B.exec, B.bytes, hml, B.returns, B.notSynchronized, ?_, htab2, fun hy => ?_, ⟨hB, hBh.1.1, hBh.1.2⟩, hG⟩ s.heap [] _ ad 0 0 ⟨hBh.2.1, hBh.2.2.1, va_S.rf, hBh.2.2.2, aw_entry hlen (fun v hv => (has v hv).2), aw_entry_ok has, (fun v hv => nomatch hv), by omega, by omega, Nat.le_refl _, h0E, fun _ _ => rfl⟩
  · rw [← hown]; exact findClass_of_methodNamed B.named
  · rw [(name_of_methodNamed B.named B.method).1]; exact hy
theorem AM_post {Q' : aw_R → List va_E → Prop} (h : ∀ r w', Q' r w' → Q r w') (k : AM G F as w Q') : AM G F as w Q := by
  intro hG ad h0E has p e h1 h2 h3 s m args below h4 h5 h6 h7
  obtain ⟨t, o, a1, b1, b2, b3⟩ := k hG ad h0E has p e h1 h2 h3 s m args below h4 h5 h6 h7
  refine ⟨t, o, a1, b1, b2, ?_⟩
  rcases b3 with ⟨⟨r, w', ad', c1, c2, c3⟩, d⟩ | ⟨q, c1, E, ce, L, ⟨w', ad', c2, c3⟩, d⟩
  · exact Or.inl ⟨⟨r, w', ad', c1, h _ _ c2, c3⟩, d⟩
  · exact Or.inr ⟨q, c1, E, ce, L, ⟨w', ad', h _ _ c2, c3⟩, d⟩
end AWo
section AWr2
variable {G : aw_G} {F : aw_F} {kc ks : Nat} {w : List va_E} {pc : Nat} {loc : List (Option Value)} {st : List Value} {Q : aw_R → List va_E → Prop}
theorem r_iret {v : Int32} {ty : FieldType} (hrt : aw_rt F = some ty) (hn : narrow ty (.int v) = .int v) (hdg : decode (aw_c F) pc = .ok (.ireturn, 1)) (hq : Q (.inl (some (.int v))) w) : AW G F kc ks w pc loc [.int v] Q := by
  intro p e s m args below meth c adE nE hS H locs ls ad cells slots hD
  obtain ⟨hx, hb, hml, hr, hlk, hown, htab, hini, hO, hG⟩ := id hS
  obtain ⟨hP, hDD, hSS, hw0, hl0, hlo, hst, hkc, hks, hn9, h0E, had⟩ := id hD
  exact W.widen (k := aw_mc F) (n := aw_ms F) (by omega) (by omega) (vx_ret (W.zret (v := v) hx hb (hr.trans hrt) hn (fun t ht hW => ⟨some (.int v), w, ad, rfl, hq, had, hn9, fun v h => by cases h; exact aw_vok_int, ⟨aw_old_of hO hSS ht, by rw [ht]; exact hP, hDD, hw0⟩, by rw [ht]; exact hSS.1⟩) hSS.2.2 hdg hlk))
theorem r_vret (hrt : aw_rt F = none) (hdg : decode (aw_c F) pc = .ok (.return_, 1)) (hq : Q (.inl none) w) : AW G F kc ks w pc loc [] Q := by
  intro p e s m args below meth c adE nE hS H locs ls ad cells slots hD
  obtain ⟨hx, hb, hml, hr, hlk, hown, htab, hini, hO, hG⟩ := id hS
  obtain ⟨hP, hDD, hSS, hw0, hl0, hlo, hst, hkc, hks, hn9, h0E, had⟩ := id hD
  exact W.widen (k := aw_mc F) (n := aw_ms F) (by omega) (by omega) (vx_ret (W.vret hx hb (hr.trans hrt) (fun t ht hW => ⟨none, w, ad, rfl, hq, had, hn9, (fun v h => nomatch h), ⟨aw_old_of hO hSS ht, by rw [ht]; exact hP, hDD, hw0⟩, by rw [ht]; exact hSS.1⟩) hSS.2.2 hdg hlk))
theorem r_aret {v : Value} {rt : FieldType} (hrt : aw_rt F = some rt) (hrt2 : (∃ n, rt = .object n) ∨ ∃ t, rt = .array t) (hv : v = .null ∨ ∃ a, v = .ref a) (hdg : decode (aw_c F) pc = .ok (.areturn, 1)) (hq : Q (.inl (some v)) w) : AW G F kc ks w pc loc [v] Q := by
  intro p e s m args below meth c adE nE hS H locs ls ad cells slots hD
  obtain ⟨hx, hb, hml, hr, hlk, hown, htab, hini, hO, hG⟩ := id hS
  obtain ⟨hP, hDD, hSS, hw0, hl0, hlo, hst, hkc, hks, hn9, h0E, had⟩ := id hD
  exact W.widen (k := aw_mc F) (n := aw_ms F) (by omega) (by omega) (vx_ret (W.aret (v := aw_v ad v) hx hb (hr.trans hrt) hrt2 (by rcases hv with rfl | ⟨a, rfl⟩; exact Or.inl rfl; exact Or.inr ⟨_, rfl⟩) (fun t ht hW => ⟨some v, w, ad, rfl, hq, had, hn9, fun v9 h => by cases h; exact hst _ List.mem_cons_self, ⟨aw_old_of hO hSS ht, by rw [ht]; exact hP, hDD, hw0⟩, by rw [ht]; exact hSS.1⟩) hSS.2.2 hdg hlk))
/-- behind a call: it has returned, or thrown through -/
theorem aw_after {p : Program} {e : Env} {s : State} {m : MethodId} {args : Array Value} {below : List Frame} {meth : Method} {c : Code} {adE : Nat → Nat} {nE : Nat} {H : Heap} {locs : List Loc} {ls : Array Slot} {ad : Nat → Nat} {cells slots : Nat} {F1 : aw_F} {Q1 : aw_R → List va_E → Prop} {a9 : Array Value} {rest : List Value} {stk : List Value} {kc' ks' : Nat}
    (hS : aw_S G F p s args m meth c) (hD : aw_D G F s adE nE w loc st kc ks H locs ls ad cells slots) (hrest : ∀ v ∈ rest, aw_vok w.length v) (hkc9 : kc' + aw_mc F1 ≤ kc) (hks9 : ks' + aw_ms F1 ≤ ks)
    (hrun : vx_Run p G.1 e (aw_room F) s m args below meth c H locs cells slots (aw_mc F1) (aw_ms F1) (F0 m pc ls stk) (rest.map (aw_v ad)) (aw_Qc G ad w.length Q1 a9) (aw_XC G ad w.length Q1) (aw_A G))
    (kret : ∀ (r : Option Value) (w' : List va_E), Q1 (.inl r) w' → w.length ≤ w'.length → AW G F kc' ks' w' (pc + 3) loc (r.toList ++ rest) Q)
    (kthr : ∀ (E : String) (ce : Cell) (q : Addr) (w' : List va_E) (ad' : Nat → Nat) (H' : Heap) (locs' : List Loc), Q1 (.inr E) w' → w.length ≤ w'.length → aw_D G F s adE nE w' loc [] kc' ks' H' locs' ls ad' (cells + aw_mc F1) (slots + aw_ms F1) → H'[q]? = some ce → ce.vm = .none → s.vm.findClass E = some ce.cls → vx_W p G.1 e (aw_room F) s m args below meth c H' locs' (cells + aw_mc F1) (slots + aw_ms F1) (vx_MQ below (aw_Qc G adE nE Q) (aw_XC G adE nE Q) args s (aw_mc F) (aw_ms F) (aw_A G)) (F0 m pc ls (rest.map (aw_v ad))) q) :
    W p G.1 e (aw_room F) s m args below meth c H locs cells slots (vx_MQ below (aw_Qc G adE nE Q) (aw_XC G adE nE Q) args s (aw_mc F) (aw_ms F) (aw_A G)) (F0 m pc ls stk) := by
  obtain ⟨hx, hb, hml, hr, hlk, hown, htab, hini, hO, hG⟩ := id hS
  obtain ⟨hP, hDD, hSS, hw0, hl0, hlo, hst, hkc, hks, hn9, h0E, had⟩ := id hD
  have key : ∀ (st₀ t T' : State) (L : List Loc) (w' : List va_E) (ad' : Nat → Nat) (st' : List Value), st₀.heap = H → (∀ q ∈ L, aw_A G q.base) → T'.heap = t.heap → (∀ k, k < w.length + 1 → ad' k = ad k) → w.length ≤ w'.length → aw_Bh G ad' w' t → st₀.heap.size ≤ t.heap.size → (∀ v ∈ st', aw_vok w'.length v) → aw_D G F s adE nE w' loc st' kc' ks' T'.heap (locs ++ L) ls ad' (cells + aw_mc F1) (slots + aw_ms F1) := by
    intro st₀ t T' L w' ad' st' h0 hL e1 hag hle hB hsz hst'
    refine ⟨by rw [e1]; exact hB.2.1, hB.2.2.1, ⟨by rw [e1]; exact Nat.le_trans hSS.1 (by rw [← h0]; exact hsz), fun q hq hA => ?_, fun l hl => ?_⟩, hB.2.2.2, aw_l_congr hag hlo hl0, aw_lok_mono hle hlo, hst', by omega, by omega, Nat.le_trans hn9 hle, h0E, fun k hk => by rw [hag k (Nat.lt_of_lt_of_le hk (Nat.succ_le_succ hn9))]; exact had k hk⟩
    · have hq0 : q < G.2.1.heap.size := Nat.lt_of_not_le hA
      rw [e1, hB.1.2 q hq0]
      exact (hO.2.2 q hq0).symm
    · rcases List.mem_append.mp hl with h | h
      · exact hSS.2.2 l h
      · exact hL l h
  intro T hT X
  rcases hrun T hT X with ⟨v, st₀, t, T', L, h0, X', hL, e1, e2, ⟨r, w', ad', hv, hq, hag, hle, hvok, hB, hsz⟩, st9⟩ | ⟨q, st₀, t, T', L, E, ce, h0, X', hL, e1, e2, ⟨w', ad', hq, hag, hle, hB, hsz⟩, hce, hcv, hcl, st9⟩
  · cases hv
    have hD' := key st₀ t T' L w' ad' (r.toList ++ rest) h0 hL e1 hag hle hB hsz (fun v hv => by
      rcases List.mem_append.mp hv with h | h
      · exact hvok v (by cases r with | none => cases h | some r9 => (cases List.mem_singleton.mp h; rfl))
      · exact aw_vok_mono hle (hrest v h))
    obtain ⟨t2, a1, b1⟩ := kret r w' hq hle p e s m args below meth c adE nE hS T'.heap (locs ++ L) ls ad' _ _ hD' T' rfl X'
    refine ⟨t2, st9 t2 ?_, b1⟩
    have e9 : (r.toList ++ rest).map (aw_v ad') = (r.map (aw_v ad')).toList ++ rest.map (aw_v ad) := by
      rw [List.map_append, aw_vs_congr hag hrest]
      cases r <;> rfl
    rw [e9] at a1
    exact a1
  · have hD' := key st₀ t T' L w' ad' [] h0 hL e1 hag hle hB hsz (fun v hv => by cases hv)
    obtain ⟨t2, a1, b1⟩ := kthr E ce q w' ad' T'.heap (locs ++ L) hq hle hD' (by rw [e1]; exact hce) hcv hcl T' rfl X'
    exact ⟨t2, st9.trans a1, b1⟩
/-- not caught here -/
theorem aw_through {p : Program} {e : Env} {s : State} {m : MethodId} {args : Array Value} {below : List Frame} {meth : Method} {c : Code} {adE : Nat → Nat} {nE : Nat} {H : Heap} {locs : List Loc} {ls : Array Slot} {ad : Nat → Nat} {cells slots : Nat} {E : String} {ce : Cell} {q : Addr} {stk : List Value} (hh : aw_hh F = [])
    (hS : aw_S G F p s args m meth c) (hD : aw_D G F s adE nE w loc st kc ks H locs ls ad cells slots) (hcell : H[q]? = some ce) (hv : ce.vm = .none) (hcl : s.vm.findClass E = some ce.cls) (hq : Q (.inr E) w) :
    vx_W p G.1 e (aw_room F) s m args below meth c H locs cells slots (vx_MQ below (aw_Qc G adE nE Q) (aw_XC G adE nE Q) args s (aw_mc F) (aw_ms F) (aw_A G)) (F0 m pc ls stk) q := by
  obtain ⟨hx, hb, hml, hr, hlk, hown, htab, hini, hO, hG⟩ := id hS
  obtain ⟨hP, hDD, hSS, hw0, hl0, hlo, hst, hkc, hks, hn9, h0E, had⟩ := id hD
  exact vx_out (aw_hh_tab htab hh) hlk hcell hv hcl (fun t ht hW => ⟨w, ad, hq, had, hn9, ⟨aw_old_of hO hSS ht, by rw [ht]; exact hP, hDD, hw0⟩, by rw [ht]; exact hSS.1⟩) hSS.2.2 (by omega) (by omega)
theorem aw_pc {s : State} {H : Heap} {locs : List Loc} {ad : Nat → Nat} {as : List Value} (hO : aw_old G s) (hP : va_P (G.2.2.2.1, G.2.2.2.2.1) vwCl (aw_w G.2.2.2.2.2.1 ad w) H) (hDD : va_D (aw_A G) (aw_w G.2.2.2.2.2.1 ad w)) (hSS : va_S (aw_A G) s.heap H locs) (hw0 : aw_wok w) :
    FrameBlind (aw_Pc G ad as w) ∧ ∀ U : State, U.heap = H → s.WarmedH U.vm → aw_Pc G ad as w (as.map (aw_v ad)).toArray U :=
  ⟨fun a U g mk q => ⟨q.1, q.2.1, q.2.2⟩, fun U hU hW => ⟨rfl, State.WarmedH.trans hO.1 hW, aw_old_of hO hSS hU, by rw [hU]; exact hP, hDD, hw0⟩⟩
theorem aw_okw {s : State} {z : Cond} (hO : aw_old G s) (hG : aw_ok G) (hz : z ∈ aw_ztb) : ∀ (a' : Array Value) (U : State), s.WarmedH U.vm → z.before a' U = true := fun a' U hW => by
  obtain ⟨h1, h2⟩ := List.mem_filter.mp hz
  exact word_at (State.WarmedH.trans hO.1 hW) (good_of_word h2) (hG.2.1 z h1)
theorem aw_par {y : MethodName} {n : Nat} (h : (parseMethodDescriptor y.desc).map (fun d => d.parameters.length) = some n) : ∀ sig, parseMethodDescriptor y.desc = some sig → n = sig.parameters.length := fun sig h9 => by
  rw [h9] at h
  exact (Option.some.inj h).symm
theorem r_callS {F1 : aw_F} {Q1 : aw_R → List va_E → Prop} {index kc' ks' n : Nat} {rest : List Value} {as : List Value} (hM : AM G F1 as w Q1) (hh1 : aw_hh F1 = []) (hh : aw_hh F = []) (hcode : aw_code F1 ∈ aw_ztb) (hini9 : Cond.initialized (aw_y F1).cls ∈ aw_ztb) (hlink : Cond.methodLink (aw_own F) index (aw_y F1) ∈ aw_ztb) (hstat : Cond.static (aw_y F1) ∈ aw_ztb) (hmh : (aw_y F1).cls ≠ "java/lang/invoke/MethodHandle" ∧ (aw_y F1).cls ≠ "java/lang/invoke/VarHandle") (hpar : (parseMethodDescriptor (aw_y F1).desc).map (fun d => d.parameters.length) = some n) (hfr : aw_fr F1 + 1 ≤ aw_fr F) (hlo9 : 8 + (aw_nL F1 + 11) + aw_lo F1 ≤ aw_lo F) (hkc9 : kc' + aw_mc F1 ≤ kc) (hks9 : ks' + aw_ms F1 ≤ ks) (hrm : (rest.map fun v => v.category).sum ≤ 8) (hn : as.length = n) (hcat : ∀ v ∈ as, v.category = 1) (he : st = as.reverse ++ rest) (hdg : decode (aw_c F) pc = .ok (.invokestatic index, 3)) (kthr : ∀ (E : String) (w' : List va_E), Q1 (.inr E) w' → w.length ≤ w'.length → Q (.inr E) w') (kret : ∀ (r : Option Value) (w' : List va_E), Q1 (.inl r) w' → w.length ≤ w'.length → AW G F kc' ks' w' (pc + 3) loc (r.toList ++ rest) Q) : AW G F kc ks w pc loc st Q := by
  intro p e s m args below meth c adE nE hS H locs ls ad cells slots hD
  obtain ⟨hx, hb, hml, hr, hlk, hown, htab, hini, hO, hG⟩ := id hS
  obtain ⟨hP, hDD, hSS, hw0, hl0, hlo, hst, hkc, hks, hn9, h0E, had⟩ := id hD
  have hts := aw_hts hS
  have hc1 : aw_code F1 = .code (aw_y F1) (aw_c F1) (aw_nL F1) (aw_rt F1) := by unfold aw_code; rw [hh1]
  refine aw_after (F1 := F1) (Q1 := Q1) (rest := rest) hS hD (fun v hv => hst v (by rw [he]; exact List.mem_append_right _ hv)) hkc9 hks9 (vx_runS (Ts := aw_ztb) (As := as.map (aw_v ad)) (n := n) (bytes := aw_c F1) (maxL := aw_nL F1) (ret := aw_rt F1) ⟨hx, hb, hml, hown, hts⟩ (hM hG ad ((had 0 (Nat.succ_pos _)).trans h0E) (fun v hv => ⟨hst v (by rw [he]; exact List.mem_append_left _ (List.mem_reverse.mpr hv)), hcat v hv⟩)) ⟨⟨rfl, rfl, hfr, hlo9, fun z hz => by cases List.mem_singleton.mp hz; exact aw_okw hO hG hcode, by rw [hc1]; exact List.mem_cons_self, by rw [← hc1]; exact hts _ hcode, hts _ hini9, hmh, aw_par hpar, hts _ hlink⟩, hts _ hstat⟩ (aw_pc hO hP hDD hSS hw0) rfl (by rw [List.length_map]; exact hn) hl0.1 (by rw [he, List.map_append, List.map_reverse]) (lv_room (by rw [aw_cats]; exact hrm)) hdg ⟨show cells + aw_mc F1 ≤ aw_mc F by omega, show slots + aw_ms F1 ≤ aw_ms F by omega⟩) kret (fun E ce q w' ad' H' locs' hq1 hle hD' hce hcv hcl => aw_through hh hS hD' hce hcv hcl (kthr E w' hq1 hle))
theorem r_callSN {F1 : aw_F} {Q1 : aw_R → List va_E → Prop} {index kc' ks' n : Nat} {rest : List Value} {as : List Value} {host : String} (hM : AM G F1 as w Q1) (hh1 : aw_hh F1 = []) (hh : aw_hh F = []) (hcode : aw_code F1 ∈ aw_ztb) (hini9 : Cond.initialized (aw_y F1).cls ∈ aw_ztb) (hlink : Cond.methodLinkNest (aw_own F) index (aw_y F1) host ∈ lw_tbl) (hstat : Cond.static (aw_y F1) ∈ aw_ztb) (hmh : (aw_y F1).cls ≠ "java/lang/invoke/MethodHandle" ∧ (aw_y F1).cls ≠ "java/lang/invoke/VarHandle") (hpar : (parseMethodDescriptor (aw_y F1).desc).map (fun d => d.parameters.length) = some n) (hfr : aw_fr F1 + 1 ≤ aw_fr F) (hlo9 : 8 + (aw_nL F1 + 11) + aw_lo F1 ≤ aw_lo F) (hkc9 : kc' + aw_mc F1 ≤ kc) (hks9 : ks' + aw_ms F1 ≤ ks) (hrm : (rest.map fun v => v.category).sum ≤ 8) (hn : as.length = n) (hcat : ∀ v ∈ as, v.category = 1) (he : st = as.reverse ++ rest) (hdg : decode (aw_c F) pc = .ok (.invokestatic index, 3)) (kthr : ∀ (E : String) (w' : List va_E), Q1 (.inr E) w' → w.length ≤ w'.length → Q (.inr E) w') (kret : ∀ (r : Option Value) (w' : List va_E), Q1 (.inl r) w' → w.length ≤ w'.length → AW G F kc' ks' w' (pc + 3) loc (r.toList ++ rest) Q) : AW G F kc ks w pc loc st Q := by
  intro p e s m args below meth c adE nE hS H locs ls ad cells slots hD
  obtain ⟨hx, hb, hml, hr, hlk, hown, htab, hini, hO, hG⟩ := id hS
  obtain ⟨hP, hDD, hSS, hw0, hl0, hlo, hst, hkc, hks, hn9, h0E, had⟩ := id hD
  have hts := aw_hts hS
  have hc1 : aw_code F1 = .code (aw_y F1) (aw_c F1) (aw_nL F1) (aw_rt F1) := by unfold aw_code; rw [hh1]
  refine aw_after (F1 := F1) (Q1 := Q1) (rest := rest) hS hD (fun v hv => hst v (by rw [he]; exact List.mem_append_right _ hv)) hkc9 hks9 (vx_runSN (Ts := aw_ztb) (As := as.map (aw_v ad)) (n := n) (bytes := aw_c F1) (maxL := aw_nL F1) (ret := aw_rt F1) ⟨hx, hb, hml, hown, hts⟩ (hM hG ad ((had 0 (Nat.succ_pos _)).trans h0E) (fun v hv => ⟨hst v (by rw [he]; exact List.mem_append_left _ (List.mem_reverse.mpr hv)), hcat v hv⟩)) ⟨⟨⟨rfl, rfl, hfr, hlo9, fun z hz => by cases List.mem_singleton.mp hz; exact aw_okw hO hG hcode, by rw [hc1]; exact List.mem_cons_self⟩, by rw [← hc1]; exact hts _ hcode, hts _ hini9, hmh, aw_par hpar, va_Nw.use rfl (va_Nw.warmM hO.1 (va_Nw.of rfl (hG.2.1 _ hlink)))⟩, hts _ hstat, trivial⟩ (aw_pc hO hP hDD hSS hw0) rfl (by rw [List.length_map]; exact hn) hl0.1 (by rw [he, List.map_append, List.map_reverse]) (lv_room (by rw [aw_cats]; exact hrm)) hdg ⟨show cells + aw_mc F1 ≤ aw_mc F by omega, show slots + aw_ms F1 ≤ aw_ms F by omega⟩) kret (fun E ce q w' ad' H' locs' hq1 hle hD' hce hcv hcl => aw_through hh hS hD' hce hcv hcl (kthr E w' hq1 hle))
theorem r_callV {F1 : aw_F} {Q1 : aw_R → List va_E → Prop} {index kc' ks' n : Nat} {rest : List Value} {as : List Value} {b ci : Nat} {T : u_T} {N : Nat} {fs : List Value} (hM : AM G F1 (.ref b :: as) w Q1) (hh1 : aw_hh F1 = []) (hc : vwCl[ci]? = some ((aw_y F1).cls, T, N)) (hw : w[b]? = some (.inr (ci, fs))) (hh : aw_hh F = []) (hcode : aw_code F1 ∈ aw_ztb) (hini9 : Cond.initialized (aw_y F1).cls ∈ aw_ztb) (hlink : Cond.methodLink (aw_own F) index (aw_y F1) ∈ aw_ztb) (hinst : Cond.instanceMethod (aw_y F1) ∈ aw_ztb) (hsel : Cond.selects (aw_y F1).cls (aw_y F1) (aw_y F1) ∈ aw_ztb) (hmh : (aw_y F1).cls ≠ "java/lang/invoke/MethodHandle" ∧ (aw_y F1).cls ≠ "java/lang/invoke/VarHandle") (hpar : (parseMethodDescriptor (aw_y F1).desc).map (fun d => d.parameters.length) = some n) (hfr : aw_fr F1 + 1 ≤ aw_fr F) (hlo9 : 8 + (aw_nL F1 + 11) + aw_lo F1 ≤ aw_lo F) (hkc9 : kc' + aw_mc F1 ≤ kc) (hks9 : ks' + aw_ms F1 ≤ ks) (hrm : (rest.map fun v => v.category).sum ≤ 8) (hn : as.length = n) (hcat : ∀ v ∈ .ref b :: as, v.category = 1) (he : st = as.reverse ++ .ref b :: rest) (hdg : decode (aw_c F) pc = .ok (.invokevirtual index, 3)) (kthr : ∀ (E : String) (w' : List va_E), Q1 (.inr E) w' → w.length ≤ w'.length → Q (.inr E) w') (kret : ∀ (r : Option Value) (w' : List va_E), Q1 (.inl r) w' → w.length ≤ w'.length → AW G F kc' ks' w' (pc + 3) loc (r.toList ++ rest) Q) : AW G F kc ks w pc loc st Q := by
  intro p e s m args below meth c adE nE hS H locs ls ad cells slots hD
  obtain ⟨hx, hb, hml, hr, hlk, hown, htab, hini, hO, hG⟩ := id hS
  obtain ⟨hP, hDD, hSS, hw0, hl0, hlo, hst, hkc, hks, hn9, h0E, had⟩ := id hD
  have hts := aw_hts hS
  have hc1 : aw_code F1 = .code (aw_y F1) (aw_c F1) (aw_nL F1) (aw_rt F1) := by unfold aw_code; rw [hh1]
  refine aw_after (F1 := F1) (Q1 := Q1) (rest := rest) hS hD (fun v hv => hst v (by rw [he]; exact List.mem_append_right _ (List.mem_cons_of_mem _ hv))) hkc9 hks9 (vx_runV (Ts := aw_ztb) (As := as.map (aw_v ad)) (b := ad (b + 1)) (n := n) (C := (aw_y F1).cls) (bytes := aw_c F1) (maxL := aw_nL F1) (ret := aw_rt F1) ⟨hx, hb, hml, hown, hts⟩ (hM hG ad ((had 0 (Nat.succ_pos _)).trans h0E) (fun v hv => ⟨hst v (by rw [he]; rcases List.mem_cons.mp hv with rfl | h; exact List.mem_append_right _ List.mem_cons_self; exact List.mem_append_left _ (List.mem_reverse.mpr h)), hcat v hv⟩)) ⟨⟨rfl, rfl, hfr, hlo9, fun z hz => by cases List.mem_singleton.mp hz; exact aw_okw hO hG hcode, by rw [hc1]; exact List.mem_cons_self, by rw [← hc1]; exact hts _ hcode, hts _ hini9, hmh, aw_par hpar, hts _ hlink⟩, hts _ hinst, hts _ hsel⟩ ⟨(aw_pc (as := .ref b :: as) hO hP hDD hSS hw0).1, va_recv (aw_hK hS) hP hc (aw_w_some hw), (aw_pc (as := .ref b :: as) hO hP hDD hSS hw0).2⟩ rfl (by rw [List.length_map]; exact hn) hl0.1 (by rw [he, List.map_append, List.map_reverse]; rfl) (lv_room (by rw [aw_cats]; exact hrm)) hdg ⟨show cells + aw_mc F1 ≤ aw_mc F by omega, show slots + aw_ms F1 ≤ aw_ms F by omega⟩) kret (fun E ce q w' ad' H' locs' hq1 hle hD' hce hcv hcl => aw_through hh hS hD' hce hcv hcl (kthr E w' hq1 hle))
theorem r_callU {F1 : aw_F} {Q1 : aw_R → List va_E → Prop} {index kc' ks' n : Nat} {rest : List Value} {as : List Value} {b ci : Nat} {T : u_T} {N : Nat} {fs : List Value} {x : MethodName} (hM : AM G F1 (.ref b :: as) w Q1) (hh1 : aw_hh F1 = []) (hc : vwCl[ci]? = some ((aw_y F1).cls, T, N)) (hw : w[b]? = some (.inr (ci, fs))) (hh : aw_hh F = []) (hcode : aw_code F1 ∈ aw_ztb) (hini9 : Cond.initialized (aw_y F1).cls ∈ aw_ztb) (hlink : Cond.methodLink (aw_own F) index x ∈ aw_ztb) (hsame : Cond.sameMethod x.cls x.cls x.name x.desc ∈ aw_ztb) (hsel : Cond.selects (aw_y F1).cls x (aw_y F1) ∈ aw_ztb) (hinst : Cond.instanceMethod (aw_y F1) ∈ aw_ztb) (hdec : Cond.declares ⟨x.cls, x.name, x.desc⟩ ∈ lw_tbl) (hxm : x.cls ≠ "java/lang/invoke/MethodHandle" ∧ x.cls ≠ "java/lang/invoke/VarHandle") (hxp : (parseMethodDescriptor x.desc).map (fun d => d.parameters.length) = some n) (hmh : (aw_y F1).cls ≠ "java/lang/invoke/MethodHandle" ∧ (aw_y F1).cls ≠ "java/lang/invoke/VarHandle") (hpar : (parseMethodDescriptor (aw_y F1).desc).map (fun d => d.parameters.length) = some n) (hfr : aw_fr F1 + 1 ≤ aw_fr F) (hlo9 : 8 + (aw_nL F1 + 11) + aw_lo F1 ≤ aw_lo F) (hkc9 : kc' + aw_mc F1 ≤ kc) (hks9 : ks' + aw_ms F1 ≤ ks) (hrm : (rest.map fun v => v.category).sum ≤ 8) (hn : as.length = n) (hcat : ∀ v ∈ .ref b :: as, v.category = 1) (he : st = as.reverse ++ .ref b :: rest) (hdg : decode (aw_c F) pc = .ok (.invokevirtual index, 3)) (kthr : ∀ (E : String) (w' : List va_E), Q1 (.inr E) w' → w.length ≤ w'.length → Q (.inr E) w') (kret : ∀ (r : Option Value) (w' : List va_E), Q1 (.inl r) w' → w.length ≤ w'.length → AW G F kc' ks' w' (pc + 3) loc (r.toList ++ rest) Q) : AW G F kc ks w pc loc st Q := by
  intro p e s m args below meth c adE nE hS H locs ls ad cells slots hD
  obtain ⟨hx, hb, hml, hr, hlk, hown, htab, hini, hO, hG⟩ := id hS
  obtain ⟨hP, hDD, hSS, hw0, hl0, hlo, hst, hkc, hks, hn9, h0E, had⟩ := id hD
  have hts := aw_hts hS
  have hc1 : aw_code F1 = .code (aw_y F1) (aw_c F1) (aw_nL F1) (aw_rt F1) := by unfold aw_code; rw [hh1]
  have hT : GoodIn aw_ztb (va_wsU (aw_own F) index (aw_y F1).cls x.cls x (aw_y F1) [aw_code F1]) := by
    intro z hz
    have hz1 : z ∈ aw_ztb := by
      simp only [va_wsU, List.mem_append, List.mem_cons, List.not_mem_nil, or_false] at hz
      rcases hz with (rfl | rfl | rfl | rfl | rfl) | rfl
      · exact hlink
      · exact hsame
      · exact hsel
      · exact hinst
      · exact hini9
      · exact hcode
    exact ⟨hz1, good_of_word (List.mem_filter.mp hz1).2⟩
  have cw := va_cwA (R := aw_room F) (s := s) (args := args) (own := aw_own F) (C := (aw_y F1).cls) (owner := x.cls) (index := index) (x := x) (y := aw_y F1) (bytes := aw_c F1) (maxL := aw_nL F1) (ret := aw_rt F1) (rm := aw_room F1) (mc := aw_mc F1) (ms := aw_ms F1) (ws' := []) n hts hT (by rw [hc1]) rfl rfl (va_Nw.warmD hO.1 (va_Nw.of rfl (hG.2.1 _ hdec))) ⟨hxm.1, hxm.2, hxp⟩ ⟨hfr, hlo9⟩
  refine aw_after (F1 := F1) (Q1 := Q1) (rest := rest) hS hD (fun v hv => hst v (by rw [he]; exact List.mem_append_right _ (List.mem_cons_of_mem _ hv))) hkc9 hks9 (vx_runU (Ts := aw_ztb) (As := as.map (aw_v ad)) (b := ad (b + 1)) (n := n) (C := (aw_y F1).cls) (owner := x.cls) (x := x) (bytes := aw_c F1) (maxL := aw_nL F1) (ret := aw_rt F1) ⟨hx, hb, hml, hown, hts⟩ (hM hG ad ((had 0 (Nat.succ_pos _)).trans h0E) (fun v hv => ⟨hst v (by rw [he]; rcases List.mem_cons.mp hv with rfl | h; exact List.mem_append_right _ List.mem_cons_self; exact List.mem_append_left _ (List.mem_reverse.mpr h)), hcat v hv⟩)) cw ⟨(aw_pc (as := .ref b :: as) hO hP hDD hSS hw0).1, va_recv (aw_hK hS) hP hc (aw_w_some hw), (aw_pc (as := .ref b :: as) hO hP hDD hSS hw0).2⟩ rfl (by rw [List.length_map]; exact hn) hl0.1 (by rw [he, List.map_append, List.map_reverse]; rfl) (lv_room (by rw [aw_cats]; exact hrm)) hdg ⟨show cells + aw_mc F1 ≤ aw_mc F by omega, show slots + aw_ms F1 ≤ aw_ms F by omega⟩) kret (fun E ce q w' ad' H' locs' hq1 hle hD' hce hcv hcl => aw_through hh hS hD' hce hcv hcl (kthr E w' hq1 hle))
theorem r_callI {F1 : aw_F} {Q1 : aw_R → List va_E → Prop} {index kc' ks' n : Nat} {rest : List Value} {as : List Value} {b : Nat} (hM : AM G F1 (.ref b :: as) w Q1) (hh1 : aw_hh F1 = []) (hh : aw_hh F = []) (hcode : aw_code F1 ∈ aw_ztb) (hini9 : Cond.initialized (aw_y F1).cls ∈ aw_ztb) (hlink : Cond.methodLink (aw_own F) index (aw_y F1) ∈ aw_ztb) (hinst : Cond.instanceMethod (aw_y F1) ∈ aw_ztb) (hy1 : (aw_y F1).name = "<init>") (hrt1 : aw_rt F1 = none) (hmh : (aw_y F1).cls ≠ "java/lang/invoke/MethodHandle" ∧ (aw_y F1).cls ≠ "java/lang/invoke/VarHandle") (hpar : (parseMethodDescriptor (aw_y F1).desc).map (fun d => d.parameters.length) = some n) (hfr : aw_fr F1 + 1 ≤ aw_fr F) (hlo9 : 8 + (aw_nL F1 + 11) + aw_lo F1 ≤ aw_lo F) (hkc9 : kc' + aw_mc F1 ≤ kc) (hks9 : ks' + aw_ms F1 ≤ ks) (hrm : (rest.map fun v => v.category).sum ≤ 8) (hn : as.length = n) (hcat : ∀ v ∈ .ref b :: as, v.category = 1) (he : st = as.reverse ++ .ref b :: rest) (hdg : decode (aw_c F) pc = .ok (.invokespecial index, 3)) (kthr : ∀ (E : String) (w' : List va_E), Q1 (.inr E) w' → w.length ≤ w'.length → Q (.inr E) w') (kret : ∀ (r : Option Value) (w' : List va_E), Q1 (.inl r) w' → w.length ≤ w'.length → AW G F kc' ks' w' (pc + 3) loc (r.toList ++ rest) Q) : AW G F kc ks w pc loc st Q := by
  intro p e s m args below meth c adE nE hS H locs ls ad cells slots hD
  obtain ⟨hx, hb, hml, hr, hlk, hown, htab, hini, hO, hG⟩ := id hS
  obtain ⟨hP, hDD, hSS, hw0, hl0, hlo, hst, hkc, hks, hn9, h0E, had⟩ := id hD
  have hts := aw_hts hS
  have hc1 : aw_code F1 = .code (aw_y F1) (aw_c F1) (aw_nL F1) none := by unfold aw_code; rw [hh1, hrt1]
  refine aw_after (F1 := F1) (Q1 := Q1) (rest := rest) hS hD (fun v hv => hst v (by rw [he]; exact List.mem_append_right _ (List.mem_cons_of_mem _ hv))) hkc9 hks9 (vx_runI (Ts := aw_ztb) (As := as.map (aw_v ad)) (b := ad (b + 1)) (n := n) (bytes := aw_c F1) (maxL := aw_nL F1) ⟨hx, hb, hml, hown, hts⟩ (hM hG ad ((had 0 (Nat.succ_pos _)).trans h0E) (fun v hv => ⟨hst v (by rw [he]; rcases List.mem_cons.mp hv with rfl | h; exact List.mem_append_right _ List.mem_cons_self; exact List.mem_append_left _ (List.mem_reverse.mpr h)), hcat v hv⟩)) ⟨⟨rfl, rfl, hfr, hlo9, fun z hz => by cases List.mem_singleton.mp hz; exact aw_okw hO hG hcode, by rw [hc1]; exact List.mem_cons_self, by rw [← hc1]; exact hts _ hcode, hts _ hini9, hmh, aw_par hpar, hts _ hlink⟩, hy1, hts _ hinst⟩ (aw_pc (as := .ref b :: as) hO hP hDD hSS hw0) rfl (by rw [List.length_map]; exact hn) hl0.1 (by rw [he, List.map_append, List.map_reverse]; rfl) (lv_room (by rw [aw_cats]; exact hrm)) hdg ⟨show cells + aw_mc F1 ≤ aw_mc F by omega, show slots + aw_ms F1 ≤ aw_ms F by omega⟩) kret (fun E ce q w' ad' H' locs' hq1 hle hD' hce hcv hcl => aw_through hh hS hD' hce hcv hcl (kthr E w' hq1 hle))
theorem r_callIN {F1 : aw_F} {Q1 : aw_R → List va_E → Prop} {index kc' ks' n : Nat} {rest : List Value} {as : List Value} {b : Nat} (hM : AM G F1 (.ref b :: as) w Q1) (hh1 : aw_hh F1 = []) (hh : aw_hh F = []) (hcode : aw_code F1 ∈ aw_ztb) (hini9 : Cond.initialized (aw_y F1).cls ∈ aw_ztb) {host : String} (hlink : Cond.methodLinkNest (aw_own F) index (aw_y F1) host ∈ lw_tbl) (hinst : Cond.instanceMethod (aw_y F1) ∈ aw_ztb) (hy1 : (aw_y F1).name = "<init>") (hrt1 : aw_rt F1 = none) (hmh : (aw_y F1).cls ≠ "java/lang/invoke/MethodHandle" ∧ (aw_y F1).cls ≠ "java/lang/invoke/VarHandle") (hpar : (parseMethodDescriptor (aw_y F1).desc).map (fun d => d.parameters.length) = some n) (hfr : aw_fr F1 + 1 ≤ aw_fr F) (hlo9 : 8 + (aw_nL F1 + 11) + aw_lo F1 ≤ aw_lo F) (hkc9 : kc' + aw_mc F1 ≤ kc) (hks9 : ks' + aw_ms F1 ≤ ks) (hrm : (rest.map fun v => v.category).sum ≤ 8) (hn : as.length = n) (hcat : ∀ v ∈ .ref b :: as, v.category = 1) (he : st = as.reverse ++ .ref b :: rest) (hdg : decode (aw_c F) pc = .ok (.invokespecial index, 3)) (kthr : ∀ (E : String) (w' : List va_E), Q1 (.inr E) w' → w.length ≤ w'.length → Q (.inr E) w') (kret : ∀ (r : Option Value) (w' : List va_E), Q1 (.inl r) w' → w.length ≤ w'.length → AW G F kc' ks' w' (pc + 3) loc (r.toList ++ rest) Q) : AW G F kc ks w pc loc st Q := by
  intro p e s m args below meth c adE nE hS H locs ls ad cells slots hD
  obtain ⟨hx, hb, hml, hr, hlk, hown, htab, hini, hO, hG⟩ := id hS
  obtain ⟨hP, hDD, hSS, hw0, hl0, hlo, hst, hkc, hks, hn9, h0E, had⟩ := id hD
  have hts := aw_hts hS
  have hc1 : aw_code F1 = .code (aw_y F1) (aw_c F1) (aw_nL F1) none := by unfold aw_code; rw [hh1, hrt1]
  refine aw_after (F1 := F1) (Q1 := Q1) (rest := rest) hS hD (fun v hv => hst v (by rw [he]; exact List.mem_append_right _ (List.mem_cons_of_mem _ hv))) hkc9 hks9 (vx_runIN (Ts := aw_ztb) (As := as.map (aw_v ad)) (b := ad (b + 1)) (n := n) (bytes := aw_c F1) (maxL := aw_nL F1) ⟨hx, hb, hml, hown, hts⟩ (hM hG ad ((had 0 (Nat.succ_pos _)).trans h0E) (fun v hv => ⟨hst v (by rw [he]; rcases List.mem_cons.mp hv with rfl | h; exact List.mem_append_right _ List.mem_cons_self; exact List.mem_append_left _ (List.mem_reverse.mpr h)), hcat v hv⟩)) ⟨⟨⟨rfl, rfl, hfr, hlo9, fun z hz => by cases List.mem_singleton.mp hz; exact aw_okw hO hG hcode, by rw [hc1]; exact List.mem_cons_self⟩, by rw [← hc1]; exact hts _ hcode, hts _ hini9, hmh, aw_par hpar, va_Nw.use rfl (va_Nw.warmM hO.1 (va_Nw.of rfl (hG.2.1 _ hlink)))⟩, hy1, hts _ hinst⟩ (aw_pc (as := .ref b :: as) hO hP hDD hSS hw0) rfl (by rw [List.length_map]; exact hn) hl0.1 (by rw [he, List.map_append, List.map_reverse]; rfl) (lv_room (by rw [aw_cats]; exact hrm)) hdg ⟨show cells + aw_mc F1 ≤ aw_mc F by omega, show slots + aw_ms F1 ≤ aw_ms F by omega⟩) kret (fun E ce q w' ad' H' locs' hq1 hle hD' hce hcv hcl => aw_through hh hS hD' hce hcv hcl (kthr E w' hq1 hle))
theorem r_min {x y : Int32} {index : Nat} (hlink : Cond.methodLink (aw_own F) index Lib.Math.min.name ∈ aw_ztb) (hstat : Cond.static Lib.Math.min.name ∈ aw_ztb) (hini9 : Cond.initialized "java/lang/Math" ∈ aw_ztb) (hcode : Cond.code Lib.Math.min.name Lib.Math.min.code 2 (some .int) ∈ aw_ztb) (hfr : 1 ≤ aw_fr F) (hlo9 : (st.map fun v => v.category).sum + 13 ≤ aw_lo F) (hdg : decode (aw_c F) pc = .ok (.invokestatic index, 3)) (kk : AW G F kc ks w (pc + 3) loc (.int (if y < x then y else x) :: st) Q) : AW G F kc ks w pc loc (.int y :: .int x :: st) Q := by
  intro p e s m args below meth c adE nE hS H locs ls ad cells slots hD
  obtain ⟨hx, hb, hml, hr, hlk, hown, htab, hini, hO, hG⟩ := id hS
  obtain ⟨hP, hDD, hSS, hw0, hl0, hlo, hst, hkc, hks, hn9, h0E, had⟩ := id hD
  have hts := aw_hts hS
  exact va_mmin hx hb (hml.trans hl0.1.symm) hown (hts _ hlink) (hts _ hstat) (hts _ hini9) (hts _ hcode) hfr (by rw [aw_cats]; exact hlo9) (show cells ≤ aw_mc F by omega) (show slots ≤ aw_ms F by omega) hdg (kk p e s m args below meth c adE nE hS H locs ls ad cells slots (aw_D_st hD (aw_s2 aw_vok_int)))
theorem r_objInit {a index : Nat} (hlink : Cond.methodLink (aw_own F) index Lib.objectInit ∈ aw_ztb) (hinst : Cond.instanceMethod Lib.objectInit ∈ aw_ztb) (hcode : Cond.code Lib.objectInit ⟨#[0xb1]⟩ 1 none ∈ aw_ztb) (hfr : 1 ≤ aw_fr F) (hlo9 : (st.map fun v => v.category).sum + 12 ≤ aw_lo F) (hdg : decode (aw_c F) pc = .ok (.invokespecial index, 3)) (kk : AW G F kc ks w (pc + 3) loc st Q) : AW G F kc ks w pc loc (.ref a :: st) Q := by
  intro p e s m args below meth c adE nE hS H locs ls ad cells slots hD
  obtain ⟨hx, hb, hml, hr, hlk, hown, htab, hini, hO, hG⟩ := id hS
  obtain ⟨hP, hDD, hSS, hw0, hl0, hlo, hst, hkc, hks, hn9, h0E, had⟩ := id hD
  have hts := aw_hts hS
  exact W.objInit hx hb hown (hts _ hlink) (hts _ hinst) (hts _ hcode) (g := F0 m pc ls _) rfl (hl0.1.trans hml.symm) rfl hdg hfr (show 2 * 0 + _ + 12 ≤ aw_lo F by rw [aw_cats]; omega) (kk p e s m args below meth c adE nE hS H locs ls ad cells slots (aw_D_st hD aw_d1))
theorem r_throw {cls text : String} {ik is ic : Nat} (hh : aw_hh F = []) (hown7 : aw_own F = RX7) (hcls : Bundle.fit cls = true) (hk : Cond.classLink (aw_own F) ik cls ∈ aw_ztb) (hini9 : Cond.initialized cls ∈ aw_ztb) (hstr : (is, text) ∈ aw_str)
    (hgd : ∀ z ∈ (vx_atS (aw_own F) ic cls ["java/lang/RuntimeException", "java/lang/Exception"]).filter goodWord, z ∈ lw_tbl) (hng : ∀ z ∈ (vx_atS (aw_own F) ic cls ["java/lang/RuntimeException", "java/lang/Exception"]).filter (fun z => !goodWord z), z ∈ [Cond.castable cls cls]) (hot : ∀ z ∈ vx_atS (aw_own F) ic cls ["java/lang/RuntimeException", "java/lang/Exception"], vx_ot z = true) (hca : Cond.castable cls cls ∈ lw_tbl)
    (d0 : decode (aw_c F) pc = .ok (.new ik, 3)) (d3 : decode (aw_c F) (pc + 3) = .ok (.dup, 1)) (d4 : decode (aw_c F) (pc + 4) = .ok (.ldc is, 2)) (d6 : decode (aw_c F) (pc + 6) = .ok (.invokespecial ic, 3)) (d9 : decode (aw_c F) (pc + 9) = .ok (.athrow, 1))
    (hfr : 5 < aw_fr F) (hlo9 : (st.map fun v => v.category).sum + 82 ≤ aw_lo F) (hkc9 : 1 ≤ kc) (hks9 : 6 ≤ ks) (hq : Q (.inr cls) w) : AW G F kc ks w pc loc st Q := by
  intro p e s m args below meth c adE nE hS H locs ls ad cells slots hD
  obtain ⟨hx, hb, hml, hr, hlk, hown, htab, hini, hO, hG⟩ := id hS
  obtain ⟨hP, hDD, hSS, hw0, hl0, hlo, hst, hkc, hks, hn9, h0E, had⟩ := id hD
  have hts := aw_hts hS
  have hl : G.1.stackTraces = false := by
    show Launch.stackTraces G.1 = false
    unfold Launch.stackTraces
    rw [hG.1]
    decide +kernel
  obtain ⟨sa, hsa⟩ := hG.2.2.2.2.2.1 _ hstr
  have hsa2 : vk_R (aw_own F) is text sa s := by rw [hown7]; exact vk_R.warm hO.1 hsa
  have hat : ∀ z ∈ vx_atS (aw_own F) ic cls ["java/lang/RuntimeException", "java/lang/Exception"], z.before args s = true :=
    vx_hat (fun z hz => hts z (List.mem_filter.mpr ⟨hgd z hz, (List.mem_filter.mp hz).2⟩)) hng (fun z hz => by cases List.mem_singleton.mp hz; exact va_Nw.use rfl (va_Nw.warmC hO.1 (va_Nw.of rfl (hG.2.1 _ hca))))
  have hkp : ∀ a : Nat, a < G.2.1.heap.size → ¬ aw_A G a → s.heap[a]? = G.2.1.heap[a]? := fun a ha _ => hO.2.2 a ha
  exact vx_throwS hx hb hl (own := aw_own F) (cls := cls) (text := text) (names := ["java/lang/RuntimeException", "java/lang/Exception"]) (sa := sa) (A := aw_A G) hown hcls (by decide +kernel) (hts _ hk) (hts _ hini9) hsa2 hat
    (fun z hz => by
      rcases List.mem_cons.mp hz with rfl | hz
      · rfl
      · rcases List.mem_cons.mp hz with rfl | hz
        · rfl
        · exact hot z hz)
    (vx_Zq.moved hO.1.alike (hG.2.2.2.1.kept hkp)) (vx_Zq.moved hO.1.alike (hG.2.2.2.2.1.kept hkp)) hSS (hl0.1.trans hml.symm) d0 d3 d4 d6 d9 (aw_hh_tab htab hh)
    (show 2 + 3 < aw_fr F by omega) (show _ + (13 * (2 + 1) + 43) ≤ aw_lo F by rw [aw_cats]; omega) (show cells + 1 ≤ aw_mc F by omega) (show slots + 6 ≤ aw_ms F by omega) hlk
    (fun t hal hsz hkeep => ⟨w, ad, hq, had, hn9, ⟨⟨Nat.le_trans hO.2.1 (Nat.le_trans hSS.1 hsz), fun q hq9 => by
      rw [hkeep q (Nat.lt_of_lt_of_le hq9 (Nat.le_trans hO.2.1 hSS.1)), hSS.2.1 q (Nat.lt_of_lt_of_le hq9 hO.2.1) (Nat.not_le.mpr hq9)]
      exact hO.2.2 q hq9⟩, va_P.kept hP (fun k q9 h9 => hkeep _ (hP k q9 h9).lt), hDD, hw0⟩, Nat.le_trans hSS.1 hsz⟩) hSS.2.2 (by omega) (by omega)
end AWr2
