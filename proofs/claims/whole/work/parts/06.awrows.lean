/-! ===== AW: its words, and a row an instruction ===== -/
abbrev aw_G : Type := Launch × State × Array Value × (Nat → ClassId) × (Nat → Nat → Nat) × (Nat → ClassId) × Nat × Nat × (Nat → Int32)
abbrev aw_F : Type := String × MethodName × ByteArray × Nat × Option FieldType × List (Nat × Nat × Nat × Nat) × Nat × Nat × Nat × Nat
abbrev aw_own (F : aw_F) : String := F.1
abbrev aw_y (F : aw_F) : MethodName := F.2.1
abbrev aw_c (F : aw_F) : ByteArray := F.2.2.1
abbrev aw_nL (F : aw_F) : Nat := F.2.2.2.1
abbrev aw_rt (F : aw_F) : Option FieldType := F.2.2.2.2.1
abbrev aw_hh (F : aw_F) : List (Nat × Nat × Nat × Nat) := F.2.2.2.2.2.1
abbrev aw_fr (F : aw_F) : Nat := F.2.2.2.2.2.2.1
abbrev aw_lo (F : aw_F) : Nat := F.2.2.2.2.2.2.2.1
abbrev aw_mc (F : aw_F) : Nat := F.2.2.2.2.2.2.2.2.1
abbrev aw_ms (F : aw_F) : Nat := F.2.2.2.2.2.2.2.2.2
abbrev aw_R : Type := Option Value ⊕ String
def aw_code (F : aw_F) : Cond := match aw_hh F with
  | [] => .code (aw_y F) (aw_c F) (aw_nL F) (aw_rt F)
  | _ :: _ => .codeWith (aw_y F) (aw_c F) (aw_nL F) (aw_rt F) (aw_hh F)
def aw_room (F : aw_F) : Room := { frames := aw_fr F, cells := aw_mc F, slots := aw_ms F, locals := aw_lo F }
def aw_ztb : List Cond := lw_tbl.filter goodWord
theorem aw_zw (i : Nat) {w : Cond} (h : lw_tbl[i]? = some w) (hg : goodWord w = true) : w ∈ aw_ztb := List.mem_filter.mpr ⟨List.mem_of_getElem? h, hg⟩
def aw_tys (cA : Nat → ClassId) : List (ClassId × FieldType) := [(cA 0, .int), (cA 1, .boolean), (cA 2, .char), (cA 3, .long), (cA 4, .object RX1), (cA 5, .object RX2), (cA 6, .object RX0)]
def aw_A (G : aw_G) : Nat → Prop := fun q => G.2.1.heap.size ≤ q
def aw_str : List (Nat × String) := [(46, "the text is full"), (61, "the text is no formula"), (229, "no such field"), (77, "no such type"), (232, "no such formula"), (94, "the formula would be broken"), (99, "a field would hang on itself"), (116, "there are 10 versions"), (236, "no such version"), (234, "no such place"), (149, "no version, or 20 answers"), (238, "no such answer"), (164, "not OPEN, or no field to put a value into"), (170, "the value is out of range"), (178, "not OPEN, or a value is missing"), (189, "the field has no value"), (194, "the answer is OPEN"), (206, "neither COUNTED nor HELD, or the field is ABSENT"), (214, "not HELD, or not doubted in the field"), (222, "not HELD, or no field to amend")]
def aw_ok (G : aw_G) : Prop := G.1.flags = flags0 ∧ (∀ w ∈ lw_tbl, w.before G.2.2.1 G.2.1 = true) ∧ va_K (G.2.2.2.1, G.2.2.2.2.1) vwCl (aw_tys G.2.2.2.2.2.1) G.2.1 ∧ vx_Zq Bundle.tN "UNASSIGNED_STACK" Bundle.steD (aw_A G) G.2.1 G.2.1.heap ∧ vx_Zq Bundle.tN "SUPPRESSED_SENTINEL" Bundle.listD (aw_A G) G.2.1 G.2.1.heap ∧ (∀ q ∈ aw_str, ∃ a : Nat, vk_R RX7 q.1 q.2 a G.2.1) ∧ va_X G.2.2.2.2.2.2.1 G.2.2.2.2.2.2.2.1 G.2.2.2.2.2.2.2.2 G.2.1 G.2.1.heap ∧ G.2.2.2.2.2.2.1 < G.2.1.heap.size
def aw_oldh (G : aw_G) (U : State) : Prop := G.2.1.heap.size ≤ U.heap.size ∧ ∀ q : Nat, q < G.2.1.heap.size → U.heap[q]? = G.2.1.heap[q]?
def aw_old (G : aw_G) (U : State) : Prop := G.2.1.WarmedH U.vm ∧ aw_oldh G U
def aw_Bh (G : aw_G) (ad : Nat → Nat) (w : List va_E) (U : State) : Prop := aw_oldh G U ∧ va_P (G.2.2.2.1, G.2.2.2.2.1) vwCl (aw_w G.2.2.2.2.2.1 ad w) U.heap ∧ va_D (aw_A G) (aw_w G.2.2.2.2.2.1 ad w) ∧ aw_wok w
def aw_B (G : aw_G) (ad : Nat → Nat) (w : List va_E) (U : State) : Prop := G.2.1.WarmedH U.vm ∧ aw_Bh G ad w U
def aw_Pc (G : aw_G) (ad : Nat → Nat) (as : List Value) (w : List va_E) : Array Value → State → Prop := fun a U => a = (as.map (aw_v ad)).toArray ∧ aw_B G ad w U
def aw_Qc (G : aw_G) (ad : Nat → Nat) (n : Nat) (Q : aw_R → List va_E → Prop) : Array Value → State → Outcome → State → Prop := fun _ st o t =>
  ∃ (r : Option Value) (w' : List va_E) (ad' : Nat → Nat), o = .returned (r.map (aw_v ad')) ∧ Q (.inl r) w' ∧ (∀ k, k < n + 1 → ad' k = ad k) ∧ n ≤ w'.length ∧ (∀ v, r = some v → aw_vok w'.length v) ∧ aw_Bh G ad' w' t ∧ st.heap.size ≤ t.heap.size
def aw_XC (G : aw_G) (ad : Nat → Nat) (n : Nat) (Q : aw_R → List va_E → Prop) : String → State → State → Prop := fun E st t =>
  ∃ (w' : List va_E) (ad' : Nat → Nat), Q (.inr E) w' ∧ (∀ k, k < n + 1 → ad' k = ad k) ∧ n ≤ w'.length ∧ aw_Bh G ad' w' t ∧ st.heap.size ≤ t.heap.size
/-- a contract: with these arguments, in any heap that holds the world w, the method ends, and Q says how, and in which world -/
def AM (G : aw_G) (F : aw_F) (as : List Value) (w : List va_E) (Q : aw_R → List va_E → Prop) : Prop :=
  aw_ok G → ∀ ad : Nat → Nat, ad 0 = G.2.2.2.2.2.2.1 → (∀ v ∈ as, aw_vok w.length v ∧ v.category = 1) → vx_Met G.1 (aw_y F) [aw_code F] (aw_room F) (aw_Pc G ad as w) (aw_Qc G ad w.length Q) (aw_XC G ad w.length Q) (aw_mc F) (aw_ms F) (aw_A G)
def aw_S (G : aw_G) (F : aw_F) (p : Program) (s : State) (args : Array Value) (m : MethodId) (meth : Method) (c : Code) : Prop :=
  p.tables.exec = Jvm.exec ∧ c.code = aw_c F ∧ c.maxLocals = aw_nL F ∧ meth.sig.returnType = aw_rt F ∧ meth.locks = false ∧ s.vm.findClass (aw_own F) = some m.cls ∧ c.exceptionTable.toList = tableOf (aw_hh F) ∧ ((aw_y F).name = "<init>" → meth.name = "<init>") ∧ aw_old G s ∧ aw_ok G
def aw_D (G : aw_G) (F : aw_F) (s : State) (adE : Nat → Nat) (nE : Nat) (w : List va_E) (loc : List (Option Value)) (st : List Value) (kc ks : Nat) (H : Heap) (locs : List Loc) (ls : Array Slot) (ad : Nat → Nat) (cells slots : Nat) : Prop :=
  va_P (G.2.2.2.1, G.2.2.2.2.1) vwCl (aw_w G.2.2.2.2.2.1 ad w) H ∧ va_D (aw_A G) (aw_w G.2.2.2.2.2.1 ad w) ∧ va_S (aw_A G) s.heap H locs ∧ aw_wok w ∧ lv_has ls (aw_nL F) (aw_l ad loc) ∧ aw_lok w.length loc ∧ (∀ v ∈ st, aw_vok w.length v) ∧ cells + kc ≤ aw_mc F ∧ slots + ks ≤ aw_ms F ∧ nE ≤ w.length ∧ adE 0 = G.2.2.2.2.2.2.1 ∧ ∀ k, k < nE + 1 → ad k = adE k
/-- at this place of the method F, with these locals and this stack, in any heap that holds the world w, with room for kc cells of ks slots: it ends, and Q says how -/
def AW (G : aw_G) (F : aw_F) (kc ks : Nat) (w : List va_E) (pc : Nat) (loc : List (Option Value)) (st : List Value) (Q : aw_R → List va_E → Prop) : Prop :=
  ∀ (p : Program) (e : Env) (s : State) (m : MethodId) (args : Array Value) (below : List Frame) (meth : Method) (c : Code) (adE : Nat → Nat) (nE : Nat), aw_S G F p s args m meth c →
  ∀ (H : Heap) (locs : List Loc) (ls : Array Slot) (ad : Nat → Nat) (cells slots : Nat), aw_D G F s adE nE w loc st kc ks H locs ls ad cells slots →
  W p G.1 e (aw_room F) s m args below meth c H locs cells slots (vx_MQ below (aw_Qc G adE nE Q) (aw_XC G adE nE Q) args s (aw_mc F) (aw_ms F) (aw_A G)) (F0 m pc ls (st.map (aw_v ad)))
section AWa
variable {G : aw_G} {F : aw_F} {p : Program} {s : State} {args : Array Value} {m : MethodId} {meth : Method} {c : Code}
theorem aw_hts (h : aw_S G F p s args m meth c) : ∀ w ∈ aw_ztb, w.before args s = true := by
  obtain ⟨-, -, -, -, -, -, -, -, hO, hG⟩ := h
  intro w hw
  obtain ⟨h1, h2⟩ := List.mem_filter.mp hw
  exact word_at hO.1 (good_of_word h2) (hG.2.1 w h1)
theorem aw_hK (h : aw_S G F p s args m meth c) : va_K (G.2.2.2.1, G.2.2.2.2.1) vwCl (aw_tys G.2.2.2.2.2.1) s := by
  obtain ⟨-, -, -, -, -, -, -, -, hO, hG⟩ := h
  exact va_K.moved hO.1.alike hG.2.2.1
theorem aw_hA (h : aw_S G F p s args m meth c) : ∀ q, s.heap.size ≤ q → aw_A G q := by
  obtain ⟨-, -, -, -, -, -, -, -, hO, hG⟩ := h
  exact fun q hq => Nat.le_trans hO.2.1 hq
end AWa
section AWb
variable {G : aw_G} {F : aw_F} {s : State} {adE : Nat → Nat} {nE : Nat} {w w' : List va_E} {loc loc' : List (Option Value)} {st st' : List Value} {kc ks : Nat} {H H' : Heap} {locs locs' : List Loc} {ls ls' : Array Slot} {ad : Nat → Nat} {cells slots : Nat}
theorem aw_D_st (h : aw_D G F s adE nE w loc st kc ks H locs ls ad cells slots) (hs : (∀ v ∈ st, aw_vok w.length v) → ∀ v ∈ st', aw_vok w.length v) : aw_D G F s adE nE w loc st' kc ks H locs ls ad cells slots := by
  obtain ⟨h1, h2, h3, h4, h5, h6, h7, h8⟩ := h
  exact ⟨h1, h2, h3, h4, h5, h6, hs h7, h8⟩
theorem aw_D_ls (h : aw_D G F s adE nE w loc st kc ks H locs ls ad cells slots) (hs : (∀ v ∈ st, aw_vok w.length v) → ∀ v ∈ st', aw_vok w.length v) (h5 : lv_has ls' (aw_nL F) (aw_l ad loc')) (h6 : aw_lok w.length loc') : aw_D G F s adE nE w loc' st' kc ks H locs ls' ad cells slots := by
  obtain ⟨h1, h2, h3, h4, -, -, h7, h8⟩ := h
  exact ⟨h1, h2, h3, h4, h5, h6, hs h7, h8⟩
theorem aw_D_put (h : aw_D G F s adE nE w loc st kc ks H locs ls ad cells slots) (hl : w'.length = w.length) (hs : (∀ v ∈ st, aw_vok w.length v) → ∀ v ∈ st', aw_vok w.length v) (h1 : va_P (G.2.2.2.1, G.2.2.2.2.1) vwCl (aw_w G.2.2.2.2.2.1 ad w') H') (h2 : va_D (aw_A G) (aw_w G.2.2.2.2.2.1 ad w')) (h3 : va_S (aw_A G) s.heap H' locs') (h4 : aw_wok w') : aw_D G F s adE nE w' loc st' kc ks H' locs' ls ad cells slots := by
  obtain ⟨-, -, -, -, h5, h6, h7, h8, h9, h10, h11⟩ := h
  exact ⟨h1, h2, h3, h4, h5, by rw [hl]; exact h6, by rw [hl]; exact hs h7, h8, h9, by rw [hl]; exact h10, h11⟩
theorem aw_s0 {n : Nat} {z : Value} (hz : aw_vok n z) : (∀ v ∈ st, aw_vok n v) → ∀ v ∈ z :: st, aw_vok n v := fun h v hv => (List.mem_cons.mp hv).elim (fun e => by rw [e]; exact hz) (h v)
theorem aw_s1 {n : Nat} {a z : Value} (hz : aw_vok n z) : (∀ v ∈ a :: st, aw_vok n v) → ∀ v ∈ z :: st, aw_vok n v := fun h => aw_s0 hz (fun v hv => h v (List.mem_cons_of_mem _ hv))
theorem aw_s2 {n : Nat} {a b z : Value} (hz : aw_vok n z) : (∀ v ∈ a :: b :: st, aw_vok n v) → ∀ v ∈ z :: st, aw_vok n v := fun h => aw_s0 hz (fun v hv => h v (List.mem_cons_of_mem _ (List.mem_cons_of_mem _ hv)))
theorem aw_d1 {n : Nat} {a : Value} : (∀ v ∈ a :: st, aw_vok n v) → ∀ v ∈ st, aw_vok n v := fun h v hv => h v (List.mem_cons_of_mem _ hv)
theorem aw_d2 {n : Nat} {a b : Value} : (∀ v ∈ a :: b :: st, aw_vok n v) → ∀ v ∈ st, aw_vok n v := fun h => aw_d1 (aw_d1 h)
theorem aw_d3 {n : Nat} {a b d : Value} : (∀ v ∈ a :: b :: d :: st, aw_vok n v) → ∀ v ∈ st, aw_vok n v := fun h => aw_d2 (aw_d1 h)
theorem aw_script {p : Program} {args : Array Value} {m : MethodId} {meth : Method} {c : Code} (hS : aw_S G F p s args m meth c) (hD : aw_D G F s adE nE w loc st kc ks H locs ls ad cells slots) : va_X G.2.2.2.2.2.2.1 G.2.2.2.2.2.2.2.1 G.2.2.2.2.2.2.2.2 s s.heap ∧ G.2.2.2.2.2.2.1 < s.heap.size ∧ ¬ aw_A G G.2.2.2.2.2.2.1 ∧ ad 0 = G.2.2.2.2.2.2.1 := by
  obtain ⟨-, -, -, -, -, -, -, -, hO, hG⟩ := hS
  obtain ⟨-, -, -, -, -, -, -, -, -, -, h0, had⟩ := hD
  have hX := va_X.moved hO.1.alike hG.2.2.2.2.2.2.1
  refine ⟨?_, Nat.lt_of_lt_of_le hG.2.2.2.2.2.2.2 hO.2.1, Nat.not_le.mpr hG.2.2.2.2.2.2.2, (had 0 (Nat.succ_pos _)).trans h0⟩
  obtain ⟨scr, h1, h2⟩ := hX
  exact ⟨scr, (hO.2.2 _ hG.2.2.2.2.2.2.2).trans h1, h2⟩
end AWb
section AWr
variable {G : aw_G} {F : aw_F} {kc ks : Nat} {w : List va_E} {pc : Nat} {loc : List (Option Value)} {st : List Value} {Q : aw_R → List va_E → Prop}
theorem r_iadd {x y : Int32} (hdg : decode (aw_c F) pc = .ok (.iadd, 1))  (k : AW G F kc ks w (pc + 1) loc (.int (x + y) :: st) Q) : AW G F kc ks w pc loc (.int y :: .int x :: st) Q := by
  intro p e s m args below meth c adE nE hS H locs ls ad cells slots hD
  obtain ⟨hx, hb, hml, hr, hlk, hown, htab, hini, hO, hG⟩ := id hS
  exact lv_iadd hx hb hdg (k p e s m args below meth c adE nE hS H locs ls ad cells slots (aw_D_st hD (aw_s2 aw_vok_int)))
theorem r_isub {x y : Int32} (hdg : decode (aw_c F) pc = .ok (.isub, 1))  (k : AW G F kc ks w (pc + 1) loc (.int (x - y) :: st) Q) : AW G F kc ks w pc loc (.int y :: .int x :: st) Q := by
  intro p e s m args below meth c adE nE hS H locs ls ad cells slots hD
  obtain ⟨hx, hb, hml, hr, hlk, hown, htab, hini, hO, hG⟩ := id hS
  exact lv_isub hx hb hdg (k p e s m args below meth c adE nE hS H locs ls ad cells slots (aw_D_st hD (aw_s2 aw_vok_int)))
theorem r_imul {x y : Int32} (hdg : decode (aw_c F) pc = .ok (.imul, 1))  (k : AW G F kc ks w (pc + 1) loc (.int (x * y) :: st) Q) : AW G F kc ks w pc loc (.int y :: .int x :: st) Q := by
  intro p e s m args below meth c adE nE hS H locs ls ad cells slots hD
  obtain ⟨hx, hb, hml, hr, hlk, hown, htab, hini, hO, hG⟩ := id hS
  exact lv_imul hx hb hdg (k p e s m args below meth c adE nE hS H locs ls ad cells slots (aw_D_st hD (aw_s2 aw_vok_int)))
theorem r_iand {x y : Int32} (hdg : decode (aw_c F) pc = .ok (.iand, 1))  (k : AW G F kc ks w (pc + 1) loc (.int (x &&& y) :: st) Q) : AW G F kc ks w pc loc (.int y :: .int x :: st) Q := by
  intro p e s m args below meth c adE nE hS H locs ls ad cells slots hD
  obtain ⟨hx, hb, hml, hr, hlk, hown, htab, hini, hO, hG⟩ := id hS
  exact lv_iand hx hb hdg (k p e s m args below meth c adE nE hS H locs ls ad cells slots (aw_D_st hD (aw_s2 aw_vok_int)))
theorem r_ior {x y : Int32} (hdg : decode (aw_c F) pc = .ok (.ior, 1))  (k : AW G F kc ks w (pc + 1) loc (.int (x ||| y) :: st) Q) : AW G F kc ks w pc loc (.int y :: .int x :: st) Q := by
  intro p e s m args below meth c adE nE hS H locs ls ad cells slots hD
  obtain ⟨hx, hb, hml, hr, hlk, hown, htab, hini, hO, hG⟩ := id hS
  exact lv_ior hx hb hdg (k p e s m args below meth c adE nE hS H locs ls ad cells slots (aw_D_st hD (aw_s2 aw_vok_int)))
theorem r_ixor {x y : Int32} (hdg : decode (aw_c F) pc = .ok (.ixor, 1))  (k : AW G F kc ks w (pc + 1) loc (.int (x ^^^ y) :: st) Q) : AW G F kc ks w pc loc (.int y :: .int x :: st) Q := by
  intro p e s m args below meth c adE nE hS H locs ls ad cells slots hD
  obtain ⟨hx, hb, hml, hr, hlk, hown, htab, hini, hO, hG⟩ := id hS
  exact lv_ixor hx hb hdg (k p e s m args below meth c adE nE hS H locs ls ad cells slots (aw_D_st hD (aw_s2 aw_vok_int)))
theorem r_idiv {x y : Int32} (hdg : decode (aw_c F) pc = .ok (.idiv, 1)) (hne : ¬ y = 0) (k : AW G F kc ks w (pc + 1) loc (.int (x / y) :: st) Q) : AW G F kc ks w pc loc (.int y :: .int x :: st) Q := by
  intro p e s m args below meth c adE nE hS H locs ls ad cells slots hD
  obtain ⟨hx, hb, hml, hr, hlk, hown, htab, hini, hO, hG⟩ := id hS
  exact lv_idiv hx hb hdg hne (k p e s m args below meth c adE nE hS H locs ls ad cells slots (aw_D_st hD (aw_s2 aw_vok_int)))
theorem r_irem {x y : Int32} (hdg : decode (aw_c F) pc = .ok (.irem, 1)) (hne : ¬ y = 0) (k : AW G F kc ks w (pc + 1) loc (.int (x - x / y * y) :: st) Q) : AW G F kc ks w pc loc (.int y :: .int x :: st) Q := by
  intro p e s m args below meth c adE nE hS H locs ls ad cells slots hD
  obtain ⟨hx, hb, hml, hr, hlk, hown, htab, hini, hO, hG⟩ := id hS
  exact lv_irem hx hb hdg hne (k p e s m args below meth c adE nE hS H locs ls ad cells slots (aw_D_st hD (aw_s2 aw_vok_int)))
theorem r_ineg {x : Int32} (hdg : decode (aw_c F) pc = .ok (.ineg, 1))  (k : AW G F kc ks w (pc + 1) loc (.int (-x) :: st) Q) : AW G F kc ks w pc loc (.int x :: st) Q := by
  intro p e s m args below meth c adE nE hS H locs ls ad cells slots hD
  obtain ⟨hx, hb, hml, hr, hlk, hown, htab, hini, hO, hG⟩ := id hS
  exact lv_ineg hx hb hdg (k p e s m args below meth c adE nE hS H locs ls ad cells slots (aw_D_st hD (aw_s1 aw_vok_int)))
theorem r_ishl {x y : Int32} (hdg : decode (aw_c F) pc = .ok (.ishl, 1))  (k : AW G F kc ks w (pc + 1) loc (.int (x <<< (y &&& 31)) :: st) Q) : AW G F kc ks w pc loc (.int y :: .int x :: st) Q := by
  intro p e s m args below meth c adE nE hS H locs ls ad cells slots hD
  obtain ⟨hx, hb, hml, hr, hlk, hown, htab, hini, hO, hG⟩ := id hS
  exact lv_ishl hx hb hdg (k p e s m args below meth c adE nE hS H locs ls ad cells slots (aw_D_st hD (aw_s2 aw_vok_int)))
theorem r_ishr {x y : Int32} (hdg : decode (aw_c F) pc = .ok (.ishr, 1))  (k : AW G F kc ks w (pc + 1) loc (.int (x >>> (y &&& 31)) :: st) Q) : AW G F kc ks w pc loc (.int y :: .int x :: st) Q := by
  intro p e s m args below meth c adE nE hS H locs ls ad cells slots hD
  obtain ⟨hx, hb, hml, hr, hlk, hown, htab, hini, hO, hG⟩ := id hS
  exact lv_ishr hx hb hdg (k p e s m args below meth c adE nE hS H locs ls ad cells slots (aw_D_st hD (aw_s2 aw_vok_int)))
theorem r_i2l {x : Int32} (hdg : decode (aw_c F) pc = .ok (.i2l, 1))  (k : AW G F kc ks w (pc + 1) loc (.long x.toInt64 :: st) Q) : AW G F kc ks w pc loc (.int x :: st) Q := by
  intro p e s m args below meth c adE nE hS H locs ls ad cells slots hD
  obtain ⟨hx, hb, hml, hr, hlk, hown, htab, hini, hO, hG⟩ := id hS
  exact lv_i2l hx hb hdg rfl (k p e s m args below meth c adE nE hS H locs ls ad cells slots (aw_D_st hD (aw_s1 aw_vok_long)))
theorem r_i2c {x v : Int32} (hdg : decode (aw_c F) pc = .ok (.i2c, 1)) (hv : (x.toUInt32 % 65536).toInt32 = v) (k : AW G F kc ks w (pc + 1) loc (.int v :: st) Q) : AW G F kc ks w pc loc (.int x :: st) Q := by
  intro p e s m args below meth c adE nE hS H locs ls ad cells slots hD
  obtain ⟨hx, hb, hml, hr, hlk, hown, htab, hini, hO, hG⟩ := id hS
  exact lv_i2c hx hb hdg hv (k p e s m args below meth c adE nE hS H locs ls ad cells slots (aw_D_st hD (aw_s1 aw_vok_int)))
theorem r_lcmp {x y : Int64} (hdg : decode (aw_c F) pc = .ok (.lcmp, 1))  (k : AW G F kc ks w (pc + 1) loc (.int (lg_cmp x y) :: st) Q) : AW G F kc ks w pc loc (.long y :: .long x :: st) Q := by
  intro p e s m args below meth c adE nE hS H locs ls ad cells slots hD
  obtain ⟨hx, hb, hml, hr, hlk, hown, htab, hini, hO, hG⟩ := id hS
  exact W.lcmp hx hb hdg (k p e s m args below meth c adE nE hS H locs ls ad cells slots (aw_D_st hD (aw_s2 aw_vok_int)))
theorem r_iconst {n : Int} {v : Int32} (hdg : decode (aw_c F) pc = .ok (.iconst n, 1)) (hv : Int32.ofInt n = v) (k : AW G F kc ks w (pc + 1) loc (.int v :: st) Q) : AW G F kc ks w pc loc st Q := by
  intro p e s m args below meth c adE nE hS H locs ls ad cells slots hD
  obtain ⟨hx, hb, hml, hr, hlk, hown, htab, hini, hO, hG⟩ := id hS
  exact lv_iconst hx hb hdg hv (k p e s m args below meth c adE nE hS H locs ls ad cells slots (aw_D_st hD (aw_s0 aw_vok_int)))
theorem r_lconst {n : Fin 2} {v : Int64} (hdg : decode (aw_c F) pc = .ok (.lconst n, 1)) (hv : Int64.ofNat n = v) (k : AW G F kc ks w (pc + 1) loc (.long v :: st) Q) : AW G F kc ks w pc loc st Q := by
  intro p e s m args below meth c adE nE hS H locs ls ad cells slots hD
  obtain ⟨hx, hb, hml, hr, hlk, hown, htab, hini, hO, hG⟩ := id hS
  exact lv_lconst hx hb hdg hv (k p e s m args below meth c adE nE hS H locs ls ad cells slots (aw_D_st hD (aw_s0 aw_vok_long)))
theorem r_bipush {n : Int} {v : Int32} (hdg : decode (aw_c F) pc = .ok (.bipush n, 2)) (hv : (Int8.ofInt n).toInt32 = v) (k : AW G F kc ks w (pc + 2) loc (.int v :: st) Q) : AW G F kc ks w pc loc st Q := by
  intro p e s m args below meth c adE nE hS H locs ls ad cells slots hD
  obtain ⟨hx, hb, hml, hr, hlk, hown, htab, hini, hO, hG⟩ := id hS
  exact lv_bipush hx hb hdg hv (k p e s m args below meth c adE nE hS H locs ls ad cells slots (aw_D_st hD (aw_s0 aw_vok_int)))
theorem r_sipush {n : Int} {v : Int32} (hdg : decode (aw_c F) pc = .ok (.sipush n, 3)) (hv : (Int16.ofInt n).toInt32 = v) (k : AW G F kc ks w (pc + 3) loc (.int v :: st) Q) : AW G F kc ks w pc loc st Q := by
  intro p e s m args below meth c adE nE hS H locs ls ad cells slots hD
  obtain ⟨hx, hb, hml, hr, hlk, hown, htab, hini, hO, hG⟩ := id hS
  exact lv_sipush hx hb hdg hv (k p e s m args below meth c adE nE hS H locs ls ad cells slots (aw_D_st hD (aw_s0 aw_vok_int)))
theorem r_null  (hdg : decode (aw_c F) pc = .ok (.aconst_null, 1))  (k : AW G F kc ks w (pc + 1) loc (.null :: st) Q) : AW G F kc ks w pc loc st Q := by
  intro p e s m args below meth c adE nE hS H locs ls ad cells slots hD
  obtain ⟨hx, hb, hml, hr, hlk, hown, htab, hini, hO, hG⟩ := id hS
  exact lv_null hx hb hdg (k p e s m args below meth c adE nE hS H locs ls ad cells slots (aw_D_st hD (aw_s0 aw_vok_null)))
theorem r_dup {v : Value} (hdg : decode (aw_c F) pc = .ok (.dup, 1)) (hv : v.category = 1) (k : AW G F kc ks w (pc + 1) loc (v :: v :: st) Q) : AW G F kc ks w pc loc (v :: st) Q := by
  intro p e s m args below meth c adE nE hS H locs ls ad cells slots hD
  obtain ⟨hx, hb, hml, hr, hlk, hown, htab, hini, hO, hG⟩ := id hS
  exact lv_dup hx hb hdg ((aw_v_cat ad v).trans hv) (k p e s m args below meth c adE nE hS H locs ls ad cells slots (aw_D_st hD (fun h => aw_s0 (h v List.mem_cons_self) h)))
theorem r_dup2 {u v : Value} (hdg : decode (aw_c F) pc = .ok (.dup2, 1)) (hu : u.category = 1) (hv : v.category = 1) (k : AW G F kc ks w (pc + 1) loc (v :: u :: v :: u :: st) Q) : AW G F kc ks w pc loc (v :: u :: st) Q := by
  intro p e s m args below meth c adE nE hS H locs ls ad cells slots hD
  obtain ⟨hx, hb, hml, hr, hlk, hown, htab, hini, hO, hG⟩ := id hS
  exact lv_dup2_11 hx hb hdg ((aw_v_cat ad v).trans hv) ((aw_v_cat ad u).trans hu) (k p e s m args below meth c adE nE hS H locs ls ad cells slots (aw_D_st hD (fun h => aw_s0 (h v List.mem_cons_self) (aw_s0 (h u (List.mem_cons_of_mem _ List.mem_cons_self)) h))))
theorem r_pop {v : Value} (hdg : decode (aw_c F) pc = .ok (.pop, 1)) (hv : v.category = 1) (k : AW G F kc ks w (pc + 1) loc st Q) : AW G F kc ks w pc loc (v :: st) Q := by
  intro p e s m args below meth c adE nE hS H locs ls ad cells slots hD
  obtain ⟨hx, hb, hml, hr, hlk, hown, htab, hini, hO, hG⟩ := id hS
  exact lv_pop hx hb hdg ((aw_v_cat ad v).trans hv) (k p e s m args below meth c adE nE hS H locs ls ad cells slots (aw_D_st hD aw_d1))
theorem r_iload_n {j : Fin 4} {i : Nat} {x : Int32} (hdg : decode (aw_c F) pc = .ok (.iload_n j, 1)) (hi : (j : Nat) = i) (hl : loc[i]? = some (some (.int x))) (k : AW G F kc ks w (pc + 1) loc (.int x :: st) Q) : AW G F kc ks w pc loc st Q := by
  intro p e s m args below meth c adE nE hS H locs ls ad cells slots hD
  obtain ⟨hx, hb, hml, hr, hlk, hown, htab, hini, hO, hG⟩ := id hS
  exact lv_iload_n hx hb hdg hi (aw_l_at hD.2.2.2.2.1 hl) (k p e s m args below meth c adE nE hS H locs ls ad cells slots (aw_D_st hD (aw_s0 aw_vok_int)))
theorem r_iload {i : Nat} {x : Int32} (hdg : decode (aw_c F) pc = .ok (.iload i, 2)) (hl : loc[i]? = some (some (.int x))) (k : AW G F kc ks w (pc + 2) loc (.int x :: st) Q) : AW G F kc ks w pc loc st Q := by
  intro p e s m args below meth c adE nE hS H locs ls ad cells slots hD
  obtain ⟨hx, hb, hml, hr, hlk, hown, htab, hini, hO, hG⟩ := id hS
  exact lv_iload hx hb hdg (aw_l_at hD.2.2.2.2.1 hl) (k p e s m args below meth c adE nE hS H locs ls ad cells slots (aw_D_st hD (aw_s0 aw_vok_int)))
theorem r_aload_n {j : Fin 4} {i a : Nat} (hdg : decode (aw_c F) pc = .ok (.aload_n j, 1)) (hi : (j : Nat) = i) (hl : loc[i]? = some (some (.ref a))) (k : AW G F kc ks w (pc + 1) loc (.ref a :: st) Q) : AW G F kc ks w pc loc st Q := by
  intro p e s m args below meth c adE nE hS H locs ls ad cells slots hD
  obtain ⟨hx, hb, hml, hr, hlk, hown, htab, hini, hO, hG⟩ := id hS
  exact lv_aload_n hx hb hdg hi (aw_l_at hD.2.2.2.2.1 hl) (k p e s m args below meth c adE nE hS H locs ls ad cells slots (aw_D_st hD (aw_s0 (hD.2.2.2.2.2.1 i _ hl).1)))
theorem r_aload {i a : Nat} (hdg : decode (aw_c F) pc = .ok (.aload i, 2)) (hl : loc[i]? = some (some (.ref a))) (k : AW G F kc ks w (pc + 2) loc (.ref a :: st) Q) : AW G F kc ks w pc loc st Q := by
  intro p e s m args below meth c adE nE hS H locs ls ad cells slots hD
  obtain ⟨hx, hb, hml, hr, hlk, hown, htab, hini, hO, hG⟩ := id hS
  exact lv_aload hx hb hdg (aw_l_at hD.2.2.2.2.1 hl) (k p e s m args below meth c adE nE hS H locs ls ad cells slots (aw_D_st hD (aw_s0 (hD.2.2.2.2.2.1 i _ hl).1)))
theorem r_aload_nN {j : Fin 4} {i : Nat} (hdg : decode (aw_c F) pc = .ok (.aload_n j, 1)) (hi : (j : Nat) = i) (hl : loc[i]? = some (some .null)) (k : AW G F kc ks w (pc + 1) loc (.null :: st) Q) : AW G F kc ks w pc loc st Q := by
  intro p e s m args below meth c adE nE hS H locs ls ad cells slots hD
  obtain ⟨hx, hb, hml, hr, hlk, hown, htab, hini, hO, hG⟩ := id hS
  exact lv_aload_nN hx hb hdg hi (aw_l_at hD.2.2.2.2.1 hl) (k p e s m args below meth c adE nE hS H locs ls ad cells slots (aw_D_st hD (aw_s0 aw_vok_null)))
theorem r_aloadN {i : Nat} (hdg : decode (aw_c F) pc = .ok (.aload i, 2)) (hl : loc[i]? = some (some .null)) (k : AW G F kc ks w (pc + 2) loc (.null :: st) Q) : AW G F kc ks w pc loc st Q := by
  intro p e s m args below meth c adE nE hS H locs ls ad cells slots hD
  obtain ⟨hx, hb, hml, hr, hlk, hown, htab, hini, hO, hG⟩ := id hS
  exact lv_aloadN hx hb hdg (aw_l_at hD.2.2.2.2.1 hl) (k p e s m args below meth c adE nE hS H locs ls ad cells slots (aw_D_st hD (aw_s0 aw_vok_null)))
theorem r_aload_nX {j : Fin 4} {i : Nat} {z : UInt32} (hdg : decode (aw_c F) pc = .ok (.aload_n j, 1)) (hi : (j : Nat) = i) (hl : loc[i]? = some (some (.float z))) (k : AW G F kc ks w (pc + 1) loc (.float z :: st) Q) : AW G F kc ks w pc loc st Q := by
  intro p e s m args below meth c adE nE hS H locs ls ad cells slots hD
  obtain ⟨hx, hb, hml, hr, hlk, hown, htab, hini, hO, hG⟩ := id hS
  exact lv_aload_n hx hb hdg hi (aw_l_at hD.2.2.2.2.1 hl) (k p e s m args below meth c adE nE hS H locs ls ad cells slots (aw_D_st hD (aw_s0 (fun k h => nomatch h))))
theorem r_slen {z : UInt32} (hdg : decode (aw_c F) pc = .ok (.arraylength, 1)) (k : AW G F kc ks w (pc + 1) loc (.int (nI G.2.2.2.2.2.2.2.1) :: st) Q) : AW G F kc ks w pc loc (.float z :: st) Q := by
  intro p e s m args below meth c adE nE hS H locs ls ad cells slots hD
  obtain ⟨hx, hb, hml, hr, hlk, hown, htab, hini, hO, hG⟩ := id hS
  obtain ⟨hXs, hbs, hbA, h00⟩ := aw_script hS hD
  refine va_slen hx hb (b := ad 0) (by rw [h00]; exact hXs) (by rw [h00]; exact hbs) (by rw [h00]; exact hbA) hD.2.2.1 hdg ?_
  exact k p e s m args below meth c adE nE hS H locs ls ad cells slots (aw_D_st hD (aw_s1 aw_vok_int))
theorem r_sld {z : UInt32} {i : Int32} (hi : vp_in i G.2.2.2.2.2.2.2.1) (hdg : decode (aw_c F) pc = .ok (.iaload, 1)) (k : AW G F kc ks w (pc + 1) loc (.int (G.2.2.2.2.2.2.2.2 i.toNatClampNeg) :: st) Q) : AW G F kc ks w pc loc (.int i :: .float z :: st) Q := by
  intro p e s m args below meth c adE nE hS H locs ls ad cells slots hD
  obtain ⟨hx, hb, hml, hr, hlk, hown, htab, hini, hO, hG⟩ := id hS
  obtain ⟨hXs, hbs, hbA, h00⟩ := aw_script hS hD
  refine va_sld hx hb (b := ad 0) (by rw [h00]; exact hXs) (by rw [h00]; exact hbs) (by rw [h00]; exact hbA) hD.2.2.1 hi hdg ?_
  exact k p e s m args below meth c adE nE hS H locs ls ad cells slots (aw_D_st hD (aw_s2 aw_vok_int))
theorem r_istore_n {j : Fin 4} {x : Int32} {i : Nat} {loc' : List (Option Value)} (hdg : decode (aw_c F) pc = .ok (.istore_n j, 1)) (hi : (j : Nat) = i) (hn : i < aw_nL F) (hl : loc.set i (some (.int x)) = loc') (k : AW G F kc ks w (pc + 1) loc' st Q) : AW G F kc ks w pc loc (.int x :: st) Q := by
  intro p e s m args below meth c adE nE hS H locs ls ad cells slots hD
  obtain ⟨hx, hb, hml, hr, hlk, hown, htab, hini, hO, hG⟩ := id hS
  exact lv_istore_n hx hb hdg hi hD.2.2.2.2.1 hn rfl (fun ls' hl' => k p e s m args below meth c adE nE hS H locs ls' ad cells slots (aw_D_ls hD aw_d1 (aw_l_store hD.2.2.2.2.2.1 hl' hl) (aw_lok_store hD.2.2.2.2.2.1 aw_vok_int rfl hl)))
theorem r_istore {x : Int32} {i : Nat} {loc' : List (Option Value)} (hdg : decode (aw_c F) pc = .ok (.istore i, 2))  (hn : i < aw_nL F) (hl : loc.set i (some (.int x)) = loc') (k : AW G F kc ks w (pc + 2) loc' st Q) : AW G F kc ks w pc loc (.int x :: st) Q := by
  intro p e s m args below meth c adE nE hS H locs ls ad cells slots hD
  obtain ⟨hx, hb, hml, hr, hlk, hown, htab, hini, hO, hG⟩ := id hS
  exact lv_istore hx hb hdg hD.2.2.2.2.1 hn rfl (fun ls' hl' => k p e s m args below meth c adE nE hS H locs ls' ad cells slots (aw_D_ls hD aw_d1 (aw_l_store hD.2.2.2.2.2.1 hl' hl) (aw_lok_store hD.2.2.2.2.2.1 aw_vok_int rfl hl)))
theorem r_astore_n {j : Fin 4} {a : Nat} {i : Nat} {loc' : List (Option Value)} (hdg : decode (aw_c F) pc = .ok (.astore_n j, 1)) (hi : (j : Nat) = i) (hn : i < aw_nL F) (hl : loc.set i (some (.ref a)) = loc') (k : AW G F kc ks w (pc + 1) loc' st Q) : AW G F kc ks w pc loc (.ref a :: st) Q := by
  intro p e s m args below meth c adE nE hS H locs ls ad cells slots hD
  obtain ⟨hx, hb, hml, hr, hlk, hown, htab, hini, hO, hG⟩ := id hS
  exact lv_astore_n hx hb hdg hi hD.2.2.2.2.1 hn rfl (fun ls' hl' => k p e s m args below meth c adE nE hS H locs ls' ad cells slots (aw_D_ls hD aw_d1 (aw_l_store hD.2.2.2.2.2.1 hl' hl) (aw_lok_store hD.2.2.2.2.2.1 (hD.2.2.2.2.2.2.1 _ List.mem_cons_self) rfl hl)))
theorem r_astore {a : Nat} {i : Nat} {loc' : List (Option Value)} (hdg : decode (aw_c F) pc = .ok (.astore i, 2))  (hn : i < aw_nL F) (hl : loc.set i (some (.ref a)) = loc') (k : AW G F kc ks w (pc + 2) loc' st Q) : AW G F kc ks w pc loc (.ref a :: st) Q := by
  intro p e s m args below meth c adE nE hS H locs ls ad cells slots hD
  obtain ⟨hx, hb, hml, hr, hlk, hown, htab, hini, hO, hG⟩ := id hS
  exact lv_astore hx hb hdg hD.2.2.2.2.1 hn rfl (fun ls' hl' => k p e s m args below meth c adE nE hS H locs ls' ad cells slots (aw_D_ls hD aw_d1 (aw_l_store hD.2.2.2.2.2.1 hl' hl) (aw_lok_store hD.2.2.2.2.2.1 (hD.2.2.2.2.2.2.1 _ List.mem_cons_self) rfl hl)))
theorem r_astore_nN {j : Fin 4} {i : Nat} {loc' : List (Option Value)} (hdg : decode (aw_c F) pc = .ok (.astore_n j, 1)) (hi : (j : Nat) = i) (hn : i < aw_nL F) (hl : loc.set i (some (.null)) = loc') (k : AW G F kc ks w (pc + 1) loc' st Q) : AW G F kc ks w pc loc (.null :: st) Q := by
  intro p e s m args below meth c adE nE hS H locs ls ad cells slots hD
  obtain ⟨hx, hb, hml, hr, hlk, hown, htab, hini, hO, hG⟩ := id hS
  exact lv_astore_nN hx hb hdg hi hD.2.2.2.2.1 hn rfl (fun ls' hl' => k p e s m args below meth c adE nE hS H locs ls' ad cells slots (aw_D_ls hD aw_d1 (aw_l_store hD.2.2.2.2.2.1 hl' hl) (aw_lok_store hD.2.2.2.2.2.1 aw_vok_null rfl hl)))
theorem r_astoreN  {i : Nat} {loc' : List (Option Value)} (hdg : decode (aw_c F) pc = .ok (.astore i, 2))  (hn : i < aw_nL F) (hl : loc.set i (some (.null)) = loc') (k : AW G F kc ks w (pc + 2) loc' st Q) : AW G F kc ks w pc loc (.null :: st) Q := by
  intro p e s m args below meth c adE nE hS H locs ls ad cells slots hD
  obtain ⟨hx, hb, hml, hr, hlk, hown, htab, hini, hO, hG⟩ := id hS
  exact lv_astoreN hx hb hdg hD.2.2.2.2.1 hn rfl (fun ls' hl' => k p e s m args below meth c adE nE hS H locs ls' ad cells slots (aw_D_ls hD aw_d1 (aw_l_store hD.2.2.2.2.2.1 hl' hl) (aw_lok_store hD.2.2.2.2.2.1 aw_vok_null rfl hl)))
theorem r_iinc {i : Nat} {n : Int} {x v : Int32} {loc' : List (Option Value)} (hdg : decode (aw_c F) pc = .ok (.iinc i n, 3)) (hk : loc[i]? = some (some (.int x))) (hv : x + Int32.ofInt n = v) (hn : i < aw_nL F) (hl : loc.set i (some (.int v)) = loc') (k : AW G F kc ks w (pc + 3) loc' st Q) : AW G F kc ks w pc loc st Q := by
  intro p e s m args below meth c adE nE hS H locs ls ad cells slots hD
  obtain ⟨hx, hb, hml, hr, hlk, hown, htab, hini, hO, hG⟩ := id hS
  obtain ⟨i9, h9⟩ := List.getElem?_of_mem (aw_l_mem.mpr ⟨_, hk, rfl⟩ : (i, Value.int x) ∈ aw_l ad loc)
  exact lv_iinc hx hb hdg hD.2.2.2.2.1 h9 hv hn rfl (fun ls' hl' => k p e s m args below meth c adE nE hS H locs ls' ad cells slots (aw_D_ls hD id (aw_l_store (v := .int v) hD.2.2.2.2.2.1 hl' hl) (aw_lok_store hD.2.2.2.2.2.1 aw_vok_int rfl hl)))
theorem r_iincK {i : Nat} {n : Int} {x k9 : Int32} {loc' : List (Option Value)} (hdg : decode (aw_c F) pc = .ok (.iinc i n, 3)) (hk9 : Int32.ofInt n = k9) (hk : loc[i]? = some (some (.int x))) (hn : i < aw_nL F) (hl : loc.set i (some (.int (x + k9))) = loc') (k : AW G F kc ks w (pc + 3) loc' st Q) : AW G F kc ks w pc loc st Q := by
  subst hk9
  exact r_iinc hdg hk rfl hn hl k
theorem r_if_eq {x : Int32} {off : Int} {tgt : Nat} (hdg : decode (aw_c F) pc = .ok (.ifCond .eq off, 3)) (ht : (pc : Int) + off = (tgt : Int)) (kt : x = 0 → AW G F kc ks w tgt loc st Q) (kf : ¬ x = 0 → AW G F kc ks w (pc + 3) loc st Q) : AW G F kc ks w pc loc (.int x :: st) Q := by
  intro p e s m args below meth c adE nE hS H locs ls ad cells slots hD
  obtain ⟨hx, hb, hml, hr, hlk, hown, htab, hini, hO, hG⟩ := id hS
  exact lv_if_eq hx hb hdg ht (fun h => kt h p e s m args below meth c adE nE hS H locs ls ad cells slots (aw_D_st hD aw_d1)) (fun h => kf h p e s m args below meth c adE nE hS H locs ls ad cells slots (aw_D_st hD aw_d1))
theorem r_icmp_eq {x y : Int32} {off : Int} {tgt : Nat} (hdg : decode (aw_c F) pc = .ok (.if_icmp .eq off, 3)) (ht : (pc : Int) + off = (tgt : Int)) (kt : x = y → AW G F kc ks w tgt loc st Q) (kf : ¬ x = y → AW G F kc ks w (pc + 3) loc st Q) : AW G F kc ks w pc loc (.int y :: .int x :: st) Q := by
  intro p e s m args below meth c adE nE hS H locs ls ad cells slots hD
  obtain ⟨hx, hb, hml, hr, hlk, hown, htab, hini, hO, hG⟩ := id hS
  exact lv_icmp_eq hx hb hdg ht (fun h => kt h p e s m args below meth c adE nE hS H locs ls ad cells slots (aw_D_st hD aw_d2)) (fun h => kf h p e s m args below meth c adE nE hS H locs ls ad cells slots (aw_D_st hD aw_d2))
theorem r_if_ne {x : Int32} {off : Int} {tgt : Nat} (hdg : decode (aw_c F) pc = .ok (.ifCond .ne off, 3)) (ht : (pc : Int) + off = (tgt : Int)) (kt : ¬ x = 0 → AW G F kc ks w tgt loc st Q) (kf : x = 0 → AW G F kc ks w (pc + 3) loc st Q) : AW G F kc ks w pc loc (.int x :: st) Q := by
  intro p e s m args below meth c adE nE hS H locs ls ad cells slots hD
  obtain ⟨hx, hb, hml, hr, hlk, hown, htab, hini, hO, hG⟩ := id hS
  exact lv_if_ne hx hb hdg ht (fun h => kt h p e s m args below meth c adE nE hS H locs ls ad cells slots (aw_D_st hD aw_d1)) (fun h => kf h p e s m args below meth c adE nE hS H locs ls ad cells slots (aw_D_st hD aw_d1))
theorem r_icmp_ne {x y : Int32} {off : Int} {tgt : Nat} (hdg : decode (aw_c F) pc = .ok (.if_icmp .ne off, 3)) (ht : (pc : Int) + off = (tgt : Int)) (kt : ¬ x = y → AW G F kc ks w tgt loc st Q) (kf : x = y → AW G F kc ks w (pc + 3) loc st Q) : AW G F kc ks w pc loc (.int y :: .int x :: st) Q := by
  intro p e s m args below meth c adE nE hS H locs ls ad cells slots hD
  obtain ⟨hx, hb, hml, hr, hlk, hown, htab, hini, hO, hG⟩ := id hS
  exact lv_icmp_ne hx hb hdg ht (fun h => kt h p e s m args below meth c adE nE hS H locs ls ad cells slots (aw_D_st hD aw_d2)) (fun h => kf h p e s m args below meth c adE nE hS H locs ls ad cells slots (aw_D_st hD aw_d2))
theorem r_if_lt {x : Int32} {off : Int} {tgt : Nat} (hdg : decode (aw_c F) pc = .ok (.ifCond .lt off, 3)) (ht : (pc : Int) + off = (tgt : Int)) (kt : x < 0 → AW G F kc ks w tgt loc st Q) (kf : ¬ x < 0 → AW G F kc ks w (pc + 3) loc st Q) : AW G F kc ks w pc loc (.int x :: st) Q := by
  intro p e s m args below meth c adE nE hS H locs ls ad cells slots hD
  obtain ⟨hx, hb, hml, hr, hlk, hown, htab, hini, hO, hG⟩ := id hS
  exact lv_if_lt hx hb hdg ht (fun h => kt h p e s m args below meth c adE nE hS H locs ls ad cells slots (aw_D_st hD aw_d1)) (fun h => kf h p e s m args below meth c adE nE hS H locs ls ad cells slots (aw_D_st hD aw_d1))
theorem r_icmp_lt {x y : Int32} {off : Int} {tgt : Nat} (hdg : decode (aw_c F) pc = .ok (.if_icmp .lt off, 3)) (ht : (pc : Int) + off = (tgt : Int)) (kt : x < y → AW G F kc ks w tgt loc st Q) (kf : ¬ x < y → AW G F kc ks w (pc + 3) loc st Q) : AW G F kc ks w pc loc (.int y :: .int x :: st) Q := by
  intro p e s m args below meth c adE nE hS H locs ls ad cells slots hD
  obtain ⟨hx, hb, hml, hr, hlk, hown, htab, hini, hO, hG⟩ := id hS
  exact lv_icmp_lt hx hb hdg ht (fun h => kt h p e s m args below meth c adE nE hS H locs ls ad cells slots (aw_D_st hD aw_d2)) (fun h => kf h p e s m args below meth c adE nE hS H locs ls ad cells slots (aw_D_st hD aw_d2))
theorem r_if_ge {x : Int32} {off : Int} {tgt : Nat} (hdg : decode (aw_c F) pc = .ok (.ifCond .ge off, 3)) (ht : (pc : Int) + off = (tgt : Int)) (kt : 0 ≤ x → AW G F kc ks w tgt loc st Q) (kf : ¬ 0 ≤ x → AW G F kc ks w (pc + 3) loc st Q) : AW G F kc ks w pc loc (.int x :: st) Q := by
  intro p e s m args below meth c adE nE hS H locs ls ad cells slots hD
  obtain ⟨hx, hb, hml, hr, hlk, hown, htab, hini, hO, hG⟩ := id hS
  exact lv_if_ge hx hb hdg ht (fun h => kt h p e s m args below meth c adE nE hS H locs ls ad cells slots (aw_D_st hD aw_d1)) (fun h => kf h p e s m args below meth c adE nE hS H locs ls ad cells slots (aw_D_st hD aw_d1))
theorem r_icmp_ge {x y : Int32} {off : Int} {tgt : Nat} (hdg : decode (aw_c F) pc = .ok (.if_icmp .ge off, 3)) (ht : (pc : Int) + off = (tgt : Int)) (kt : y ≤ x → AW G F kc ks w tgt loc st Q) (kf : ¬ y ≤ x → AW G F kc ks w (pc + 3) loc st Q) : AW G F kc ks w pc loc (.int y :: .int x :: st) Q := by
  intro p e s m args below meth c adE nE hS H locs ls ad cells slots hD
  obtain ⟨hx, hb, hml, hr, hlk, hown, htab, hini, hO, hG⟩ := id hS
  exact lv_icmp_ge hx hb hdg ht (fun h => kt h p e s m args below meth c adE nE hS H locs ls ad cells slots (aw_D_st hD aw_d2)) (fun h => kf h p e s m args below meth c adE nE hS H locs ls ad cells slots (aw_D_st hD aw_d2))
theorem r_if_gt {x : Int32} {off : Int} {tgt : Nat} (hdg : decode (aw_c F) pc = .ok (.ifCond .gt off, 3)) (ht : (pc : Int) + off = (tgt : Int)) (kt : 0 < x → AW G F kc ks w tgt loc st Q) (kf : ¬ 0 < x → AW G F kc ks w (pc + 3) loc st Q) : AW G F kc ks w pc loc (.int x :: st) Q := by
  intro p e s m args below meth c adE nE hS H locs ls ad cells slots hD
  obtain ⟨hx, hb, hml, hr, hlk, hown, htab, hini, hO, hG⟩ := id hS
  exact lv_if_gt hx hb hdg ht (fun h => kt h p e s m args below meth c adE nE hS H locs ls ad cells slots (aw_D_st hD aw_d1)) (fun h => kf h p e s m args below meth c adE nE hS H locs ls ad cells slots (aw_D_st hD aw_d1))
theorem r_icmp_gt {x y : Int32} {off : Int} {tgt : Nat} (hdg : decode (aw_c F) pc = .ok (.if_icmp .gt off, 3)) (ht : (pc : Int) + off = (tgt : Int)) (kt : y < x → AW G F kc ks w tgt loc st Q) (kf : ¬ y < x → AW G F kc ks w (pc + 3) loc st Q) : AW G F kc ks w pc loc (.int y :: .int x :: st) Q := by
  intro p e s m args below meth c adE nE hS H locs ls ad cells slots hD
  obtain ⟨hx, hb, hml, hr, hlk, hown, htab, hini, hO, hG⟩ := id hS
  exact lv_icmp_gt hx hb hdg ht (fun h => kt h p e s m args below meth c adE nE hS H locs ls ad cells slots (aw_D_st hD aw_d2)) (fun h => kf h p e s m args below meth c adE nE hS H locs ls ad cells slots (aw_D_st hD aw_d2))
theorem r_if_le {x : Int32} {off : Int} {tgt : Nat} (hdg : decode (aw_c F) pc = .ok (.ifCond .le off, 3)) (ht : (pc : Int) + off = (tgt : Int)) (kt : x ≤ 0 → AW G F kc ks w tgt loc st Q) (kf : ¬ x ≤ 0 → AW G F kc ks w (pc + 3) loc st Q) : AW G F kc ks w pc loc (.int x :: st) Q := by
  intro p e s m args below meth c adE nE hS H locs ls ad cells slots hD
  obtain ⟨hx, hb, hml, hr, hlk, hown, htab, hini, hO, hG⟩ := id hS
  exact lv_if_le hx hb hdg ht (fun h => kt h p e s m args below meth c adE nE hS H locs ls ad cells slots (aw_D_st hD aw_d1)) (fun h => kf h p e s m args below meth c adE nE hS H locs ls ad cells slots (aw_D_st hD aw_d1))
theorem r_icmp_le {x y : Int32} {off : Int} {tgt : Nat} (hdg : decode (aw_c F) pc = .ok (.if_icmp .le off, 3)) (ht : (pc : Int) + off = (tgt : Int)) (kt : x ≤ y → AW G F kc ks w tgt loc st Q) (kf : ¬ x ≤ y → AW G F kc ks w (pc + 3) loc st Q) : AW G F kc ks w pc loc (.int y :: .int x :: st) Q := by
  intro p e s m args below meth c adE nE hS H locs ls ad cells slots hD
  obtain ⟨hx, hb, hml, hr, hlk, hown, htab, hini, hO, hG⟩ := id hS
  exact lv_icmp_le hx hb hdg ht (fun h => kt h p e s m args below meth c adE nE hS H locs ls ad cells slots (aw_D_st hD aw_d2)) (fun h => kf h p e s m args below meth c adE nE hS H locs ls ad cells slots (aw_D_st hD aw_d2))
theorem r_goto {off : Int} {tgt : Nat} (hdg : decode (aw_c F) pc = .ok (.goto off, 3)) (ht : (pc : Int) + off = (tgt : Int)) (k : AW G F kc ks w tgt loc st Q) : AW G F kc ks w pc loc st Q := by
  intro p e s m args below meth c adE nE hS H locs ls ad cells slots hD
  obtain ⟨hx, hb, hml, hr, hlk, hown, htab, hini, hO, hG⟩ := id hS
  exact lv_goto hx hb hdg ht (k p e s m args below meth c adE nE hS H locs ls ad cells slots hD)
theorem r_ifnull {a : Nat} {off : Int} (hdg : decode (aw_c F) pc = .ok (.ifnull off, 3)) (k : AW G F kc ks w (pc + 3) loc st Q) : AW G F kc ks w pc loc (.ref a :: st) Q := by
  intro p e s m args below meth c adE nE hS H locs ls ad cells slots hD
  obtain ⟨hx, hb, hml, hr, hlk, hown, htab, hini, hO, hG⟩ := id hS
  exact lv_ifnull hx hb hdg (k p e s m args below meth c adE nE hS H locs ls ad cells slots (aw_D_st hD aw_d1))
theorem r_ifnullN {off : Int} {tgt : Nat} (hdg : decode (aw_c F) pc = .ok (.ifnull off, 3)) (ht : (pc : Int) + off = (tgt : Int)) (k : AW G F kc ks w tgt loc st Q) : AW G F kc ks w pc loc (.null :: st) Q := by
  intro p e s m args below meth c adE nE hS H locs ls ad cells slots hD
  obtain ⟨hx, hb, hml, hr, hlk, hown, htab, hini, hO, hG⟩ := id hS
  exact lv_ifnullN hx hb hdg ht (k p e s m args below meth c adE nE hS H locs ls ad cells slots (aw_D_st hD aw_d1))
theorem r_ifnonnull {a : Nat} {off : Int} {tgt : Nat} (hdg : decode (aw_c F) pc = .ok (.ifnonnull off, 3)) (ht : (pc : Int) + off = (tgt : Int)) (k : AW G F kc ks w tgt loc st Q) : AW G F kc ks w pc loc (.ref a :: st) Q := by
  intro p e s m args below meth c adE nE hS H locs ls ad cells slots hD
  obtain ⟨hx, hb, hml, hr, hlk, hown, htab, hini, hO, hG⟩ := id hS
  exact lv_ifnonnull hx hb hdg ht (k p e s m args below meth c adE nE hS H locs ls ad cells slots (aw_D_st hD aw_d1))
theorem r_ifnonnullN {off : Int} (hdg : decode (aw_c F) pc = .ok (.ifnonnull off, 3)) (k : AW G F kc ks w (pc + 3) loc st Q) : AW G F kc ks w pc loc (.null :: st) Q := by
  intro p e s m args below meth c adE nE hS H locs ls ad cells slots hD
  obtain ⟨hx, hb, hml, hr, hlk, hown, htab, hini, hO, hG⟩ := id hS
  exact lv_ifnonnullN hx hb hdg (k p e s m args below meth c adE nE hS H locs ls ad cells slots (aw_D_st hD aw_d1))
theorem r_lookup {dflt : Int} {ps : Array (Int × Int)} {len : Nat} {x : Int32} {off : Int} {tgt : Nat} (hdg : decode (aw_c F) pc = .ok (.lookupswitch dflt ps, len)) (hp : (ps.toList.zip (ps.toList.drop 1)).all (fun (a, next) => a.1 < next.1) = true) (ho : Op.lookupswitch.offset ps.toList dflt x.toInt = off) (ht : (pc : Int) + off = (tgt : Int)) (k : AW G F kc ks w tgt loc st Q) : AW G F kc ks w pc loc (.int x :: st) Q := by
  intro p e s m args below meth c adE nE hS H locs ls ad cells slots hD
  obtain ⟨hx, hb, hml, hr, hlk, hown, htab, hini, hO, hG⟩ := id hS
  exact lv_lookup hx hb hdg hp ho ht (k p e s m args below meth c adE nE hS H locs ls ad cells slots (aw_D_st hD aw_d1))
theorem r_tableIn {dflt lo hi : Int} {offs : Array Int} {len : Nat} {x : Int32} {off : Int} {tgt : Nat} (hdg : decode (aw_c F) pc = .ok (.tableswitch dflt lo hi offs, len)) (h1 : ¬ x.toInt < lo) (h2 : ¬ hi < x.toInt) (ho : offs[(x.toInt - lo).toNat]? = some off) (ht : (pc : Int) + off = (tgt : Int)) (k : AW G F kc ks w tgt loc st Q) : AW G F kc ks w pc loc (.int x :: st) Q := by
  intro p e s m args below meth c adE nE hS H locs ls ad cells slots hD
  obtain ⟨hx, hb, hml, hr, hlk, hown, htab, hini, hO, hG⟩ := id hS
  exact lv_tableIn hx hb hdg h1 h2 ho ht (k p e s m args below meth c adE nE hS H locs ls ad cells slots (aw_D_st hD aw_d1))
theorem r_tableOut {dflt lo hi : Int} {offs : Array Int} {len : Nat} {x : Int32} {tgt : Nat} (hdg : decode (aw_c F) pc = .ok (.tableswitch dflt lo hi offs, len)) (h : x.toInt < lo ∨ hi < x.toInt) (ht : (pc : Int) + dflt = (tgt : Int)) (k : AW G F kc ks w tgt loc st Q) : AW G F kc ks w pc loc (.int x :: st) Q := by
  intro p e s m args below meth c adE nE hS H locs ls ad cells slots hD
  obtain ⟨hx, hb, hml, hr, hlk, hown, htab, hini, hO, hG⟩ := id hS
  exact lv_tableOut hx hb hdg h ht (k p e s m args below meth c adE nE hS H locs ls ad cells slots (aw_D_st hD aw_d1))
end AWr
