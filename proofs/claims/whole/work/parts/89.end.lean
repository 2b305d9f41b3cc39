/-! ===== the start of the law's body ===== -/
section LS
variable {args : Array Value} {s : State}
theorem ls_prim {ty : FieldType} (h : (Cond.arrayClass ty).before args s = true) : ∃ c : ClassId, ArrOfT s c ty ∧ s.vm.findClass ("[" ++ ty.toString) = some c := by
  obtain ⟨cA, kA, comp, h1, h2, h3⟩ := Cond.arrayClass_spec h
  exact ⟨cA, (fun n z => ⟨(fun k h => by cases h), kA, h2, comp, h3⟩), h1⟩
theorem ls_obj {C : String} (h : (Cond.arrayOver (.object C)).before args s = true) : ∃ c : ClassId, ArrOfT s c (.object C) ∧ va_RA s c (.object C) := by
  obtain ⟨comp, cA, kA, h1, -, h3, h4, h5⟩ := Cond.arrayOver_spec h
  exact ⟨cA, (fun n z => ⟨(fun k h => by cases h), kA, h3, comp, h4⟩), kA, comp, h3, h4, h1, h5⟩
theorem ls_str {own tx : String} {k : Nat} (h1 : (Cond.stringRef own k tx).before args s = true) (h2 : (Cond.exactly (.string own k) "java/lang/String").before args s = true) : ∃ a : Nat, vk_R own k tx a s := by
  obtain ⟨a, c, cell, k9, e, -⟩ := Cond.exactly_spec h2
  exact ⟨a, vk_R.of h1 e⟩
theorem ls_K (hts : ∀ w ∈ lw_tbl, w.before args s = true) (hz : ∀ w ∈ aw_ztb, w.before args s = true) : ∃ (dC : Nat → ClassId) (dI : Nat → Nat → Nat) (cA : Nat → ClassId), va_K (dC, dI) vwCl (aw_tys cA) s := by
  obtain ⟨c0, i0, K0⟩ := u_known hz in_X0 (hz _ tw_623)
  obtain ⟨c1, i1, K1⟩ := u_known hz in_X1 (hz _ tw_112)
  obtain ⟨c2, i2, K2⟩ := u_known hz in_X2 (hz _ tw_339)
  obtain ⟨c3, i3, K3⟩ := u_known hz in_X4 (hz _ tw_79)
  obtain ⟨c4, i4, K4⟩ := u_known hz in_X5 (hz _ tw_120)
  obtain ⟨c5, i5, K5⟩ := u_known hz in_X6 (hz _ tw_674)
  obtain ⟨c6, i6, K6⟩ := u_known hz in_X7 (hz _ tw_71)
  obtain ⟨c7, i7, K7⟩ := u_known hz in_X8 (hz _ tw_864)
  obtain ⟨a0, A0, B0⟩ := ls_prim (hz _ tw_110)
  obtain ⟨a1, A1, B1⟩ := ls_prim (hz _ tw_948)
  obtain ⟨a2, A2, B2⟩ := ls_prim (hz _ tw_109)
  obtain ⟨a3, A3, B3⟩ := ls_prim (hz _ tw_1217)
  obtain ⟨a4, A4, B4⟩ := ls_obj (hts _ tw_142)
  obtain ⟨a5, A5, B5⟩ := ls_obj (hts _ tw_118)
  obtain ⟨a6, A6, B6⟩ := ls_obj (hts _ tw_144)
  refine ⟨fun k => if k = 0 then c0 else if k = 1 then c1 else if k = 2 then c2 else if k = 3 then c3 else if k = 4 then c4 else if k = 5 then c5 else if k = 6 then c6 else c7, fun k => if k = 0 then i0 else if k = 1 then i1 else if k = 2 then i2 else if k = 3 then i3 else if k = 4 then i4 else if k = 5 then i5 else if k = 6 then i6 else i7, fun k => if k = 0 then a0 else if k = 1 then a1 else if k = 2 then a2 else if k = 3 then a3 else if k = 4 then a4 else if k = 5 then a5 else a6, ?_, ?_⟩
  · intro k q hq
    match k, hq with
    | 0, hq => cases hq; exact K0
    | 1, hq => cases hq; exact K1
    | 2, hq => cases hq; exact K2
    | 3, hq => cases hq; exact K3
    | 4, hq => cases hq; exact K4
    | 5, hq => cases hq; exact K5
    | 6, hq => cases hq; exact K6
    | 7, hq => cases hq; exact K7
    | k + 8, hq => simp [vwCl] at hq
  · intro k q hq
    match k, hq with
    | 0, hq => cases hq; exact ⟨A0, B0⟩
    | 1, hq => cases hq; exact ⟨A1, B1⟩
    | 2, hq => cases hq; exact ⟨A2, B2⟩
    | 3, hq => cases hq; exact ⟨A3, B3⟩
    | 4, hq => cases hq; exact ⟨A4, B4⟩
    | 5, hq => cases hq; exact ⟨A5, B5⟩
    | 6, hq => cases hq; exact ⟨A6, B6⟩
    | k + 7, hq => simp [aw_tys] at hq
end LS
set_option maxHeartbeats 4000000 in
theorem ls_S {b : Nat} {s : State} (hts : ∀ w ∈ lw_tbl, w.before #[Value.ref b] s = true) (hg : ∀ w ∈ flatC (Jvm.Cond.and given_1 narrow_1), w.before #[Value.ref b] s = true) : ∀ q ∈ aw_str, ∃ a : Nat, vk_R RX7 q.1 q.2 a s := by
  have h := fun (k : Nat) (tx : String) (h1 : Cond.stringRef RX7 k tx ∈ lw_tbl) (h2 : Cond.exactly (.string RX7 k) "java/lang/String" ∈ flatC (Jvm.Cond.and given_1 narrow_1)) => ls_str (hts _ h1) (hg _ h2)
  unfold aw_str
  exact List.forall_mem_cons.mpr ⟨h 46 "the text is full" (List.mem_of_getElem? (i := 295) (by decide +kernel)) (by decide +kernel), List.forall_mem_cons.mpr ⟨h 61 "the text is no formula" (List.mem_of_getElem? (i := 333) (by decide +kernel)) (by decide +kernel), List.forall_mem_cons.mpr ⟨h 229 "no such field" (List.mem_of_getElem? (i := 449) (by decide +kernel)) (by decide +kernel), List.forall_mem_cons.mpr ⟨h 77 "no such type" (List.mem_of_getElem? (i := 465) (by decide +kernel)) (by decide +kernel), List.forall_mem_cons.mpr ⟨h 232 "no such formula" (List.mem_of_getElem? (i := 508) (by decide +kernel)) (by decide +kernel), List.forall_mem_cons.mpr ⟨h 94 "the formula would be broken" (List.mem_of_getElem? (i := 510) (by decide +kernel)) (by decide +kernel), List.forall_mem_cons.mpr ⟨h 99 "a field would hang on itself" (List.mem_of_getElem? (i := 526) (by decide +kernel)) (by decide +kernel), List.forall_mem_cons.mpr ⟨h 116 "there are 10 versions" (List.mem_of_getElem? (i := 558) (by decide +kernel)) (by decide +kernel), List.forall_mem_cons.mpr ⟨h 236 "no such version" (List.mem_of_getElem? (i := 636) (by decide +kernel)) (by decide +kernel), List.forall_mem_cons.mpr ⟨h 234 "no such place" (List.mem_of_getElem? (i := 648) (by decide +kernel)) (by decide +kernel), List.forall_mem_cons.mpr ⟨h 149 "no version, or 20 answers" (List.mem_of_getElem? (i := 668) (by decide +kernel)) (by decide +kernel), List.forall_mem_cons.mpr ⟨h 238 "no such answer" (List.mem_of_getElem? (i := 713) (by decide +kernel)) (by decide +kernel), List.forall_mem_cons.mpr ⟨h 164 "not OPEN, or no field to put a value into" (List.mem_of_getElem? (i := 724) (by decide +kernel)) (by decide +kernel), List.forall_mem_cons.mpr ⟨h 170 "the value is out of range" (List.mem_of_getElem? (i := 729) (by decide +kernel)) (by decide +kernel), List.forall_mem_cons.mpr ⟨h 178 "not OPEN, or a value is missing" (List.mem_of_getElem? (i := 759) (by decide +kernel)) (by decide +kernel), List.forall_mem_cons.mpr ⟨h 189 "the field has no value" (List.mem_of_getElem? (i := 797) (by decide +kernel)) (by decide +kernel), List.forall_mem_cons.mpr ⟨h 194 "the answer is OPEN" (List.mem_of_getElem? (i := 810) (by decide +kernel)) (by decide +kernel), List.forall_mem_cons.mpr ⟨h 206 "neither COUNTED nor HELD, or the field is ABSENT" (List.mem_of_getElem? (i := 821) (by decide +kernel)) (by decide +kernel), List.forall_mem_cons.mpr ⟨h 214 "not HELD, or not doubted in the field" (List.mem_of_getElem? (i := 835) (by decide +kernel)) (by decide +kernel), List.forall_mem_cons.mpr ⟨h 222 "not HELD, or no field to amend" (List.mem_of_getElem? (i := 851) (by decide +kernel)) (by decide +kernel), (fun _ h => nomatch h)⟩⟩⟩⟩⟩⟩⟩⟩⟩⟩⟩⟩⟩⟩⟩⟩⟩⟩⟩⟩
theorem ls_Z {b : Nat} {s : State} (hts : ∀ w ∈ lw_tbl, w.before #[Value.ref b] s = true) (hg : ∀ w ∈ flatC (Jvm.Cond.and given_1 narrow_1), w.before #[Value.ref b] s = true) : vx_Zq Bundle.tN "UNASSIGNED_STACK" Bundle.steD (fun q : Nat => s.heap.size ≤ q) s s.heap ∧ vx_Zq Bundle.tN "SUPPRESSED_SENTINEL" Bundle.listD (fun q : Nat => s.heap.size ≤ q) s s.heap :=
  ⟨vx_Zqof (hts _ (List.mem_of_getElem? (i := 281) (by decide +kernel))) (hts _ (List.mem_of_getElem? (i := 58) (by decide +kernel))) (hg _ (by decide +kernel)) (fun a h => Nat.not_le.mpr h),
   vx_Zqof (hts _ (List.mem_of_getElem? (i := 283) (by decide +kernel))) (hts _ (List.mem_of_getElem? (i := 58) (by decide +kernel))) (hg _ (by decide +kernel)) (fun a h => Nat.not_le.mpr h)⟩
/-! THE CLAIM OUT OF ONE WALK OF THE LAW'S BODY. Your part is whole_start (and what it stands on); all else here is the same for every law, but numbers. -/
def R_law : String := "FormWrightLaw"
def lw_P (b : Addr) (xs : List Int32) (args : Array Value) (s : State) : Prop := args = #[.ref b] ∧ s.IntsAt b xs ∧ xs.length ≤ 2048 ∧ (Jvm.Cond.and given_1 narrow_1).before args s = true
def lw_Q (_ : Array Value) (s : State) (o : Outcome) (t : State) : Prop := o = .returned (some (.int 1)) ∧ Framed s o t [] 601024 7293034
def lw_Z (below : List Frame) (a : Array Value) (s : State) : State → Prop := fun t => ∃ o, t.status = .running ∧ Ended t below o ∧ lw_Q a s o t
/-- the law's own end, with 1 on the stack, nothing written that was there before, its room as the claim has it -/
theorem lw_ret {p : Program} {l : Launch} {e : Env} {s : State} {m : MethodId} {below : List Frame} {meth : Method} {c : Code} {b : Nat} (hx : p.tables.exec = Jvm.exec) (hb : c.code = code) (hr : meth.sig.returnType = ret) (hlocks : meth.locks = false) {pc : Nat} {H : Heap} {ls : Array Slot} (hdg : decode code pc = .ok (.ireturn, 1)) : W p l e room_1 s m #[Value.ref b] below meth c H [] 601024 7293034 (lw_Z below #[Value.ref b] s) (F0 m pc ls [.int 1]) := by
  intro T hT X
  obtain ⟨fs, hret, hrun, hended, hW, hframe⟩ := X.leave (v := some (.int 1)) (hlocks := hlocks) (fun h => by rw [hr] at h; cases h)
  have hmeth' : T.vm.method? m = some meth := X.method'
  refine ⟨T.setFrames fs, ?_, .returned (some (.int 1)), hrun, hended, rfl, ⟨_, rfl⟩, hW, hframe⟩
  jvm_step X.here [X.here.top, hx, hb, hdg, hmeth', hr, ret, narrow_b1]
  (try refine ⟨rfl, ?_⟩); (try refine ⟨rfl, ?_⟩)
  first | (intro acts; rw [hret _ acts rfl rfl rfl]) | rw [hret _ _ rfl rfl rfl]
  exact Steps.refl _
/-- what holds at the law's entry: the machine, the code, the tables' words (any of lw_tbl by 'hts w (by decide +kernel)'), the script of L ints xs at the cell b, what the Statement gives of the start (any of its parts by flat_of_before) -/
def lw_At (p : Program) (s : State) (m : MethodId) (meth : Method) (c : Code) (b L : Nat) (xs : Nat → Int32) : Prop :=
  p.tables.exec = Jvm.exec ∧ c.code = code ∧ meth.sig.returnType = ret ∧ c.maxLocals = 7 ∧ s.vm.findClass R_law = some m.cls ∧ (∀ w ∈ lw_tbl, w.before #[Value.ref b] s = true) ∧ va_X b L xs s s.heap ∧ b < s.heap.size ∧ meth.locks = false ∧ (Jvm.Cond.and given_1 narrow_1).before #[Value.ref b] s = true ∧ c.exceptionTable.toList = []
-- ===== YOUR PART BEGINS =====
/-- YOUR PART: from the entry, for every script of at most 2048 ints, the law comes to its end with true ('hflags': the launch's flags, for a law that throws: no stack traces) -/
theorem whole_start {p : Program} {e : Env} {s : State} {m : MethodId} {below : List Frame} {meth : Method} {c : Code} (l : Launch) (hflags : l.flags = flags0) {b L : Nat} {xs : Nat → Int32} (hL : L ≤ 2048) (C0 : lw_At p s m meth c b L xs) : W p l e room_1 s m #[Value.ref b] below meth c s.heap [] 0 0 (lw_Z below #[Value.ref b] s) (entryFrame m ([Value.ref b] : List Value).toArray 7) := by
  obtain ⟨hx, hb, hr, hml, hown, hts, hX, hbl, hlocks, hgv, hexc⟩ := id C0
  have hg : ∀ w ∈ flatC (Jvm.Cond.and given_1 narrow_1), w.before #[Value.ref b] s = true := flat_of_before _ hgv
  have hz : ∀ w ∈ aw_ztb, w.before #[Value.ref b] s = true := fun w hw => hts w (List.mem_filter.mp hw).1
  obtain ⟨dC, dI, cA, hK⟩ := ls_K hts hz
  obtain ⟨z1, z2⟩ := ls_Z hts hg
  have hOK : aw_ok (l, s, #[Value.ref b], dC, dI, cA, b, L, xs) := ⟨hflags, hts, hK, z1, z2, ls_S hts hg, hX, hbl⟩
  have hN : aw_nc (l, s, #[Value.ref b], dC, dI, cA, b, L, xs) := ⟨va_Nc.of (hg _ (by decide +kernel)), va_Nc.of (hg _ (by decide +kernel)), va_Nc.of (hg _ (by decide +kernel)), va_Nc.of (hg _ (by decide +kernel))⟩
  have K := lw_body (G := (l, s, #[Value.ref b], dC, dI, cA, b, L, xs)) hN hL p e s m #[Value.ref b] below meth c (fun _ => b) 0 ⟨hx, hb, hml, hr, hlocks, hown, hexc, (fun h => absurd h (by decide)), ⟨State.WarmedH.refl s, Nat.le_refl _, fun _ _ => rfl⟩, hOK⟩ s.heap [] _ (fun _ => b) 0 0 ⟨(fun k q h => by cases h), ⟨(fun i j p q h => by cases h), (fun k q h => by cases h)⟩, va_S.rf, (fun i e h => by cases h), aw_entry (as := [.float 0]) (n := 7) (by decide) (fun v hv => by cases List.mem_singleton.mp hv; rfl), aw_entry_ok (as := [.float 0]) (m := 6) (fun v hv => by cases List.mem_singleton.mp hv; exact ⟨(fun k h => by cases h), rfl⟩), (fun v hv => nomatch hv), Nat.le_refl _, Nat.le_refl _, Nat.le_refl _, rfl, fun _ _ => rfl⟩
  rw [lg_entry_eq]
  intro T hT X
  obtain ⟨t, a1, o, b1, b2, b3⟩ := K T hT X
  refine ⟨t, a1, o, b1, b2, ?_⟩
  rcases b3 with ⟨⟨r, w', ad', e1, e2, -⟩, Lc, hF, hfree⟩ | ⟨q, e1, E, ce, Lc, ⟨w', ad', hq, -⟩, -⟩
  · cases e2
    exact ⟨e1, hF.1, hF.2.1, hF.2.2.weaken (fun y hy hlt => absurd hlt (Nat.not_lt.mpr (hfree y hy))) (Nat.le_refl _) (Nat.le_refl _)⟩
  · cases hq
-- ===== YOUR PART ENDS =====
set_option maxHeartbeats 4000000 in
theorem lw_walk (l : Launch) (hflags : l.flags = flags0) (b : Addr) (xs : List Int32) : MetFree l x (headSpec (Jvm.Cond.code x code maxLocals ret :: tables_1) room_1) (lw_P b xs) (fun _ _ _ _ _ => True) lw_Q := by
  refine MetFree.of_bodyS (code := code) (maxLocals := maxLocals) (ret := ret) (by decide) ?_ ?_
  · intro args s m h hn
    obtain ⟨meth, c, h1, h2, h3, h4, h5, h6, -, -⟩ := Cond.code_spec hn (atoms_spec (ws := Jvm.Cond.code x code maxLocals ret :: tables_1) h _ List.mem_cons_self)
    exact ⟨meth, c, h1, h2, h3, h4, h5, h6⟩
  · intro p e s m args below meth c s₁ B hml0 hP _
    obtain ⟨rfl, hx, hbd, hgv⟩ := hP
    obtain ⟨scr, harrAt, hlist, hof, hsmall⟩ := hx
    obtain ⟨hcb, hkn, -, -⟩ := State.arrayAt?_spec harrAt
    have hown : s.vm.findClass R_law = some m.cls := findClass_of_methodNamed B.named
    have hts0 : ∀ c ∈ (Jvm.Cond.code x code maxLocals ret :: tables_1), c.before #[Value.ref b] s = true := atoms_spec (ws := Jvm.Cond.code x code maxLocals ret :: tables_1) B.pre
    have hts : ∀ w ∈ lw_tbl, w.before #[Value.ref b] s = true := k2_hts_sels lw_privs (fun w hw => hts0 w (List.mem_cons_of_mem _ hw)) lw_privs_ok
    have hml : c.maxLocals = 7 := B.maxLocals_eq (hts0 _ List.mem_cons_self)
    have X₀ : Stand p l e room_1 s m #[Value.ref b] below meth c s₁ [] 0 0 := Stand.of_body B
    have hh0 : s₁.heap = s.heap := by rw [B.state]; rfl
    have hsz : scr.slots.size = xs.length := by rw [← Array.length_toList, hlist, List.length_map]
    have hval : ∀ j : Nat, j < xs.length → scr.slots[j]? = some (.int (xs.getD j 0)) := fun j hj => by
      rw [← Array.getElem?_toList, hlist]
      simp [hj]
    have hbl : b < s.heap.size := (Array.getElem?_eq_some_iff.mp hcb).1
    have hX : va_X b xs.length (fun j => xs.getD j 0) s s.heap := ⟨scr, hcb, hof, hkn, hsz, hval⟩
    have hexc : c.exceptionTable.toList = [] := by
      obtain ⟨meth9, c9, h1, h2, -, -, -, -, h7, -⟩ := Cond.code_spec B.named (hts0 _ List.mem_cons_self)
      cases Option.some.inj (h1.symm.trans B.method)
      cases Option.some.inj (h2.symm.trans X₀.code)
      rw [Array.isEmpty_iff.mp h7]
    have K : W p l e room_1 s m #[Value.ref b] below meth c s₁.heap [] 0 0 (lw_Z below #[Value.ref b] s) (entryFrame m ([Value.ref b] : List Value).toArray 7) := by
      rw [hh0]
      exact whole_start l hflags hbd ⟨B.exec, B.bytes, B.returns, hml, hown, hts, hX, hbl, B.notSynchronized, hgv, hexc⟩
    obtain ⟨t, a1, o, b1, b2, b3⟩ := K s₁ rfl X₀
    exact ⟨t, o, a1, b1, b2, b3⟩
theorem lw_pre_spec {args : Array Value} {s : State} (h : (Jvm.Cond.and given_1 narrow_1).before args s = true) (hr : rest_1_c.before args s = true) : ∃ (b : Addr) (xs : List Int32), lw_P b xs args s := by
  have hs := flat_of_before _ h
  have hq := flat_of_before _ hr
  have hc : (Cond.count 1).before args s = true := hs _ (by decide +kernel)
  have harr : (Cond.arrayOf (.arg 0) .int).before args s = true := hs _ (by decide +kernel)
  have hle : (Cond.le (.length (.arg 0)) (.int 2048)).before args s = true := hs _ (by decide +kernel)
  have hlen : (Cond.isInt (.length (.arg 0))).before args s = true := hq _ (by decide +kernel)
  have hall : (Cond.all (.arg 0) (.isInt (.elem (.arg 0) (.index 0)))).before args s = true := hq _ (by decide +kernel)
  obtain ⟨b, xs, hb, hx⟩ := State.ints_of_pre rfl harr hlen hall
  have hsm : xs.length < 2 ^ 31 := hx.choose_spec.2.2.2
  have hev : (Term.length (.arg 0)).eval args s none [] s = some (.int xs.length.toInt32) := hx.length_eval hb
  have hv := Cond.le_ints hev (show (Term.int 2048).eval args s none [] s = some (.int 2048) from rfl)
  have hd : xs.length.toInt32 ≤ 2048 := by
    simpa [Cond.before, Cond.holds, hv] using hle
  have hN : xs.length ≤ 2048 := (Int32.ofNat_le_ofNat hsm (by decide)).mp (show Int32.ofNat xs.length ≤ Int32.ofNat 2048 from hd)
  exact ⟨b, xs, Cond.one_arg hc (show args[0]? = some (.ref b) from hb), hx, hN, h⟩
theorem lw_comes (l : Launch) (hflags : l.flags = flags0) : Comes l x (Jvm.Cond.code x code maxLocals ret :: tables_1) room_1 (fun tb e args s => Calls_1 tb e args s ∧ rest_1 tb e args s ∧ Pre_1 tb e args s)
    (fun _ _ args s o t => lw_Q args s o t) := by
  intro p e ha hc hk s m args below hf hfit hheap happ hpre
  obtain ⟨b, xs, hP⟩ := lw_pre_spec hpre.2.2 hpre.2.1
  obtain ⟨k, o, h1, h2, h3, hQ⟩ := lw_walk l hflags b xs p e ha hc hk s m args below hf ((Spec.applies_iff_loose hf).mp happ).1 hP trivial
  exact ⟨k, o, h1, h2, h3, hQ⟩
theorem lw_frame {s t : State} {o : Outcome} {args : Array Value} (h : Framed s o t [] 601024 7293034) :
    Framed s o t (fieldLocs frame_1_writes args s ++ arrayLocs frame_1_arrays args s ++ staticLocs frame_1_statics s) 601024 7293034 := h
theorem lw_limb (L : Cond) (hL : ∀ (args : Array Value) (s t : State), L.after args s (.returned (some (.int 1))) t = true) :
    ArmFor flags0 classFile x code maxLocals ret World_1 tables_1 room_1 Calls_1 rest_1 Pre_1
      (fun tb e a s o t => postC L tb e a s o t ∧ Framed s o t (fieldLocs frame_1_writes a s ++ arrayLocs frame_1_arrays a s ++ staticLocs frame_1_statics s) 601024 7293034) := by
  intro l hflags _ _ p e ha hc hk s m args below hf hfit hheap happ hpre
  obtain ⟨k, o, h1, h2, h3, rfl, hF⟩ := lw_comes l hflags p e ha hc hk s m args below hf hfit hheap happ hpre
  exact ⟨k, _, h1, h2, h3, hL args s _, lw_frame hF⟩
theorem i_vc : Claimed_1_1 ∧ Claimed_1_2 := ⟨lw_limb limb_1_1 (fun args s t => by simp [limb_1_1, Cond.after, Cond.holds, Cond.value]), lw_limb limb_1_2 (fun args s t => Cond.after_iff.mpr (by
  first | (rw [show limb_1_2 = Cond.eq .result (.int 1) from rfl, Cond.eq_ints (x := 1) (y := 1) rfl rfl]; simp; done) | (simp [limb_1_2, Cond.value, Term.eval]; done)))⟩
