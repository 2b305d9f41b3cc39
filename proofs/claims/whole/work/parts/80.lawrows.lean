/-! ===== calls that are caught; calls of methods with handlers ===== -/
theorem aw_l_over {ad : Nat → Nat} {loc : List (Option Value)} {ls : Array Slot} {nL n i : Nat} {v : Value} (hl : aw_lok n loc) (h : lv_has ls nL ((i, v) :: (aw_l ad loc).filter (fun q => !(q.1 == i) && !(q.1 + 1 == i && q.2.category == 2)))) (e : ∀ x : Value, loc[i]? ≠ some (some x)) : lv_has ls nL (aw_l ad loc) := by
  refine ⟨h.1, h.2.1, fun q hq => ?_⟩
  obtain ⟨v1, h1, h2⟩ := aw_l_mem.mp hq
  have hqi : ¬ q.1 = i := fun z => e v1 (by rw [← z]; exact h1)
  refine h.2.2 q (List.mem_cons_of_mem _ (List.mem_filter.mpr ⟨aw_l_mem.mpr ⟨v1, h1, h2⟩, ?_⟩))
  have hc := (hl q.1 v1 h1).2
  have h3 : q.2.category = 1 := by rw [h2, aw_v_cat]; exact hc
  have h4 : (q.1 == i) = false := by simpa using hqi
  rw [h4, h3]
  simp
/-- classes of exceptions, of which none is the other -/
def aw_nc (G : aw_G) : Prop := va_Nc "java/lang/IllegalArgumentException" "java/lang/IllegalStateException" G.2.1 ∧ va_Nc "java/lang/IllegalArgumentException" "java/lang/IndexOutOfBoundsException" G.2.1 ∧ va_Nc "java/lang/IllegalStateException" "java/lang/IllegalArgumentException" G.2.1 ∧ va_Nc "java/lang/IllegalStateException" "java/lang/IndexOutOfBoundsException" G.2.1
def aw_ent (q : Nat × Nat × Nat × Nat) : ExceptionTableEntry := ⟨q.1, q.2.1, q.2.2.1, q.2.2.2⟩
/-- a throw of E at pc comes to the handler x -/
def aw_cat (G : aw_G) (F : aw_F) (pc : Nat) (E : String) (hpc : Nat) : Prop := ∃ (pre : List (Nat × Nat × Nat × Nat)) (x : Nat × Nat × Nat × Nat) (suf : List (Nat × Nat × Nat × Nat)) (nm : String), aw_hh F = pre ++ x :: suf ∧ (∀ z ∈ pre, z.2.2.2 ≠ 0 ∧ ∃ nm2 : String, Cond.classLink (aw_own F) z.2.2.2 nm2 ∈ aw_ztb ∧ va_Nc E nm2 G.2.1) ∧ covers (aw_ent x) pc = true ∧ x.2.2.2 ≠ 0 ∧ Cond.classLink (aw_own F) x.2.2.2 nm ∈ aw_ztb ∧ Cond.castable E nm ∈ lw_tbl ∧ x.2.2.1 = hpc
section AWc
variable {G : aw_G} {F : aw_F} {kc ks : Nat} {w : List va_E} {pc : Nat} {loc : List (Option Value)} {st : List Value} {Q : aw_R → List va_E → Prop}
/-- at a handler: the exception is put away, and the body goes on -/
def AWX (G : aw_G) (F : aw_F) (kc ks : Nat) (w : List va_E) (hpc : Nat) (loc : List (Option Value)) (Q : aw_R → List va_E → Prop) : Prop := ∃ (i len : Nat), ((∃ j : Fin 4, (j : Nat) = i ∧ len = 1 ∧ decode (aw_c F) hpc = .ok (.astore_n j, 1)) ∨ (len = 2 ∧ decode (aw_c F) hpc = .ok (.astore i, 2))) ∧ i < aw_nL F ∧ (∀ x : Value, loc[i]? ≠ some (some x)) ∧ AW G F kc ks w (hpc + len) loc [] Q
theorem aw_caught {p : Program} {e : Env} {s : State} {m : MethodId} {args : Array Value} {below : List Frame} {meth : Method} {c : Code} {adE : Nat → Nat} {nE : Nat} {H : Heap} {locs : List Loc} {ls : Array Slot} {ad : Nat → Nat} {cells slots : Nat} {E : String} {ce : Cell} {q : Addr} {stk : List Value} {hpc : Nat} (hcat : aw_cat G F pc E hpc)
    (hS : aw_S G F p s args m meth c) (hD : aw_D G F s adE nE w loc [] kc ks H locs ls ad cells slots) (hcell : H[q]? = some ce) (hv : ce.vm = .none) (hcl : s.vm.findClass E = some ce.cls) (hX : AWX G F kc ks w hpc loc Q) :
    vx_W p G.1 e (aw_room F) s m args below meth c H locs cells slots (vx_MQ below (aw_Qc G adE nE Q) (aw_XC G adE nE Q) args s (aw_mc F) (aw_ms F) (aw_A G)) (F0 m pc ls stk) q := by
  obtain ⟨hx, hb, hml, hr, hlk, hown, htab, hini, hO, hG⟩ := id hS
  obtain ⟨pre, x, suf, nm, h1, h2, h3, h4, h5, h6, h7⟩ := hcat
  have hts := aw_hts hS
  have hsp : c.exceptionTable.toList = pre.map aw_ent ++ aw_ent x :: suf.map aw_ent := by
    rw [htab, h1]
    show (pre ++ x :: suf).map aw_ent = _
    rw [List.map_append, List.map_cons]
  refine vx_catch hown (pre.map aw_ent) (aw_ent x) (suf.map aw_ent) hsp (fun z hz => ?_) h3 h4 (hts _ h5) (aw_cdw hO.1 rfl (hG.2.1 _ h6)) hcell hv hcl ?_
  · obtain ⟨z0, hz0, rfl⟩ := List.mem_map.mp hz
    obtain ⟨h8, nm2, h9, h10⟩ := h2 z0 hz0
    exact Or.inr ⟨h8, nm2, hts _ h9, h10.moved hO.1.alike⟩
  · obtain ⟨i, len, hd, hn, hl, k⟩ := hX
    show W p G.1 e (aw_room F) s m args below meth c H locs cells slots _ (F0 m x.2.2.1 ls [.ref q])
    rw [h7]
    rcases hd with ⟨j, hji, rfl, hd⟩ | ⟨rfl, hd⟩
    · exact lv_astore_n hx hb hd hji hD.2.2.2.2.1 hn rfl (fun ls' hl' => k p e s m args below meth c adE nE hS H locs ls' ad cells slots (aw_D_ls hD (fun h => h) (aw_l_over hD.2.2.2.2.2.1 hl' hl) hD.2.2.2.2.2.1))
    · exact lv_astore hx hb hd hD.2.2.2.2.1 hn rfl (fun ls' hl' => k p e s m args below meth c adE nE hS H locs ls' ad cells slots (aw_D_ls hD (fun h => h) (aw_l_over hD.2.2.2.2.2.1 hl' hl) hD.2.2.2.2.2.1))
theorem r_callVH {F1 : aw_F} {Q1 : aw_R → List va_E → Prop} {index kc' ks' n : Nat} {rest : List Value} {as : List Value} {b ci : Nat} {T : u_T} {N : Nat} {fs : List Value} (hM : AM G F1 (.ref b :: as) w Q1) (hh1 : aw_hh F1 = []) (hc : vwCl[ci]? = some ((aw_y F1).cls, T, N)) (hw : w[b]? = some (.inr (ci, fs))) (hcode : aw_code F1 ∈ aw_ztb) (hini9 : Cond.initialized (aw_y F1).cls ∈ aw_ztb) (hlink : Cond.methodLink (aw_own F) index (aw_y F1) ∈ aw_ztb) (hinst : Cond.instanceMethod (aw_y F1) ∈ aw_ztb) (hsel : Cond.selects (aw_y F1).cls (aw_y F1) (aw_y F1) ∈ aw_ztb) (hmh : (aw_y F1).cls ≠ "java/lang/invoke/MethodHandle" ∧ (aw_y F1).cls ≠ "java/lang/invoke/VarHandle") (hpar : (parseMethodDescriptor (aw_y F1).desc).map (fun d => d.parameters.length) = some n) (hfr : aw_fr F1 + 1 ≤ aw_fr F) (hlo9 : 8 + (aw_nL F1 + 11) + aw_lo F1 ≤ aw_lo F) (hkc9 : kc' + aw_mc F1 ≤ kc) (hks9 : ks' + aw_ms F1 ≤ ks) (hrm : (rest.map fun v => v.category).sum ≤ 8) (hn : as.length = n) (hcat : ∀ v ∈ .ref b :: as, v.category = 1) (he : st = as.reverse ++ .ref b :: rest) (hdg : decode (aw_c F) pc = .ok (.invokevirtual index, 3)) (kthr : ∀ (E : String) (w' : List va_E), Q1 (.inr E) w' → w.length ≤ w'.length → ∃ hpc, aw_cat G F pc E hpc ∧ AWX G F kc' ks' w' hpc loc Q) (kret : ∀ (r : Option Value) (w' : List va_E), Q1 (.inl r) w' → w.length ≤ w'.length → AW G F kc' ks' w' (pc + 3) loc (r.toList ++ rest) Q) : AW G F kc ks w pc loc st Q := by
  intro p e s m args below meth c adE nE hS H locs ls ad cells slots hD
  obtain ⟨hx, hb, hml, hr, hlk, hown, htab, hini, hO, hG⟩ := id hS
  obtain ⟨hP, hDD, hSS, hw0, hl0, hlo, hst, hkc, hks, hn9, h0E, had⟩ := id hD
  have hts := aw_hts hS
  have hc1 : aw_code F1 = .code (aw_y F1) (aw_c F1) (aw_nL F1) (aw_rt F1) := by unfold aw_code; rw [hh1]
  refine aw_after (F1 := F1) (Q1 := Q1) (rest := rest) hS hD (fun v hv => hst v (by rw [he]; exact List.mem_append_right _ (List.mem_cons_of_mem _ hv))) hkc9 hks9 (vx_runV (Ts := aw_ztb) (As := as.map (aw_v ad)) (b := ad (b + 1)) (n := n) (C := (aw_y F1).cls) (bytes := aw_c F1) (maxL := aw_nL F1) (ret := aw_rt F1) ⟨hx, hb, hml, hown, hts⟩ (hM hG ad ((had 0 (Nat.succ_pos _)).trans h0E) (fun v hv => ⟨hst v (by rw [he]; rcases List.mem_cons.mp hv with rfl | h; exact List.mem_append_right _ List.mem_cons_self; exact List.mem_append_left _ (List.mem_reverse.mpr h)), hcat v hv⟩)) ⟨⟨rfl, rfl, hfr, hlo9, fun z hz => by cases List.mem_singleton.mp hz; exact aw_okw hO hG hcode, by rw [hc1]; exact List.mem_cons_self, by rw [← hc1]; exact hts _ hcode, hts _ hini9, hmh, aw_par hpar, hts _ hlink⟩, hts _ hinst, hts _ hsel⟩ ⟨(aw_pc (as := .ref b :: as) hO hP hDD hSS hw0).1, va_recv (aw_hK hS) hP hc (aw_w_some hw), (aw_pc (as := .ref b :: as) hO hP hDD hSS hw0).2⟩ rfl (by rw [List.length_map]; exact hn) hl0.1 (by rw [he, List.map_append, List.map_reverse]; rfl) (lv_room (by rw [aw_cats]; exact hrm)) hdg ⟨show cells + aw_mc F1 ≤ aw_mc F by omega, show slots + aw_ms F1 ≤ aw_ms F by omega⟩) kret (fun E ce q w' ad' H' locs' hq1 hle hD' hce hcv hcl => by
    obtain ⟨hpc, h1, h2⟩ := kthr E w' hq1 hle
    exact aw_caught h1 hS hD' hce hcv hcl h2)
theorem r_callSH {F1 : aw_F} {Q1 : aw_R → List va_E → Prop} {index kc' ks' n : Nat} {rest : List Value} {as : List Value} {q0 : Nat × Nat × Nat × Nat} {qs : List (Nat × Nat × Nat × Nat)} (hM : AM G F1 as w Q1) (hh1 : aw_hh F1 = q0 :: qs) (hh : aw_hh F = []) (hcode : aw_code F1 ∈ aw_ztb) (hini9 : Cond.initialized (aw_y F1).cls ∈ aw_ztb) (hlink : Cond.methodLink (aw_own F) index (aw_y F1) ∈ aw_ztb) (hstat : Cond.static (aw_y F1) ∈ aw_ztb) (hmh : (aw_y F1).cls ≠ "java/lang/invoke/MethodHandle" ∧ (aw_y F1).cls ≠ "java/lang/invoke/VarHandle") (hpar : (parseMethodDescriptor (aw_y F1).desc).map (fun d => d.parameters.length) = some n) (hfr : aw_fr F1 + 1 ≤ aw_fr F) (hlo9 : 8 + (aw_nL F1 + 11) + aw_lo F1 ≤ aw_lo F) (hkc9 : kc' + aw_mc F1 ≤ kc) (hks9 : ks' + aw_ms F1 ≤ ks) (hrm : (rest.map fun v => v.category).sum ≤ 8) (hn : as.length = n) (hcat : ∀ v ∈ as, v.category = 1) (he : st = as.reverse ++ rest) (hdg : decode (aw_c F) pc = .ok (.invokestatic index, 3)) (kthr : ∀ (E : String) (w' : List va_E), Q1 (.inr E) w' → w.length ≤ w'.length → Q (.inr E) w') (kret : ∀ (r : Option Value) (w' : List va_E), Q1 (.inl r) w' → w.length ≤ w'.length → AW G F kc' ks' w' (pc + 3) loc (r.toList ++ rest) Q) : AW G F kc ks w pc loc st Q := by
  intro p e s m args below meth c adE nE hS H locs ls ad cells slots hD
  obtain ⟨hx, hb, hml, hr, hlk, hown, htab, hini, hO, hG⟩ := id hS
  obtain ⟨hP, hDD, hSS, hw0, hl0, hlo, hst, hkc, hks, hn9, h0E, had⟩ := id hD
  have hts := aw_hts hS
  have hc1 : aw_code F1 = .codeWith (aw_y F1) (aw_c F1) (aw_nL F1) (aw_rt F1) (aw_hh F1) := by unfold aw_code; rw [hh1]
  refine aw_after (F1 := F1) (Q1 := Q1) (rest := rest) hS hD (fun v hv => hst v (by rw [he]; exact List.mem_append_right _ hv)) hkc9 hks9 (vx_runSX (hh := aw_hh F1) (Ts := aw_ztb) (As := as.map (aw_v ad)) (n := n) (bytes := aw_c F1) (maxL := aw_nL F1) (ret := aw_rt F1) ⟨hx, hb, hml, hown, hts⟩ (hM hG ad ((had 0 (Nat.succ_pos _)).trans h0E) (fun v hv => ⟨hst v (by rw [he]; exact List.mem_append_left _ (List.mem_reverse.mpr hv)), hcat v hv⟩)) ⟨⟨rfl, rfl, hfr, hlo9, fun z hz => by cases List.mem_singleton.mp hz; exact aw_okw hO hG hcode, by rw [hc1]; exact List.mem_cons_self⟩, by rw [← hc1]; exact hts _ hcode, hts _ hini9, hmh, aw_par hpar, hts _ hlink, hts _ hstat⟩ (aw_pc hO hP hDD hSS hw0) rfl (by rw [List.length_map]; exact hn) hl0.1 (by rw [he, List.map_append, List.map_reverse]) (lv_room (by rw [aw_cats]; exact hrm)) hdg ⟨show cells + aw_mc F1 ≤ aw_mc F by omega, show slots + aw_ms F1 ≤ aw_ms F by omega⟩) kret (fun E ce q w' ad' H' locs' hq1 hle hD' hce hcv hcl => aw_through hh hS hD' hce hcv hcl (kthr E w' hq1 hle))
end AWc
