/-! ===== AW: the machine over a world whose cells are numbered in the order of their making ===== -/
def aw_v (ad : Nat → Nat) (v : Value) : Value := match v with
  | .ref k => .ref (ad (k + 1))
  | .float _ => .ref (ad 0)
  | v => v
def aw_x (ad : Nat → Nat) (x : vp_A) : vp_A := (x.1, match x.2 with
  | .inr (.inr (.inr (.inr f))) => .inr (.inr (.inr (.inr (fun j => (f j).map (fun k => ad (k + 1))))))
  | y => y)
def aw_e (cA : Nat → ClassId) (ad : Nat → Nat) (e : va_E) : va_E := match e with
  | .inl a => .inl (cA a.1, aw_x ad a.2)
  | .inr o => .inr (o.1, o.2.map (aw_v ad))
def aw_w (cA : Nat → ClassId) (ad : Nat → Nat) (w : List va_E) : va_W := w.mapIdx (fun i e => (ad (i + 1), aw_e cA ad e))
def aw_vok (n : Nat) (v : Value) : Prop := ∀ k : Nat, v = .ref k → k < n
def aw_eok (n : Nat) (e : va_E) : Prop := match e with
  | .inl a => ∀ f : Nat → Option Nat, a.2.2 = .inr (.inr (.inr (.inr f))) → ∀ j k : Nat, f j = some k → k < n
  | .inr o => ∀ v ∈ o.2, aw_vok n v
def aw_wok (w : List va_E) : Prop := ∀ (i : Nat) (e : va_E), w[i]? = some e → aw_eok w.length e
theorem aw_v_cat (ad : Nat → Nat) (v : Value) : (aw_v ad v).category = v.category := by cases v <;> rfl
theorem aw_cats (ad : Nat → Nat) (st : List Value) : ((st.map (aw_v ad)).map fun v => v.category).sum = (st.map fun v => v.category).sum := by
  rw [List.map_map]
  congr 1
  exact List.map_congr_left fun v _ => aw_v_cat ad v
theorem aw_vok_int {n : Nat} {x : Int32} : aw_vok n (.int x) := fun k h => by cases h
theorem aw_vok_long {n : Nat} {x : Int64} : aw_vok n (.long x) := fun k h => by cases h
theorem aw_vok_null {n : Nat} : aw_vok n .null := fun k h => by cases h
theorem aw_vok_ref {n k : Nat} (h : k < n) : aw_vok n (.ref k) := fun j e => by cases e; exact h
theorem aw_vok_rf {n : Nat} {r : Option Nat} (h : ∀ k, r = some k → k < n) : aw_vok n (va_rf r) := by
  cases r with
  | none => exact aw_vok_null
  | some k => exact aw_vok_ref (h k rfl)
theorem aw_vok_mono {n m : Nat} (h : n ≤ m) {v : Value} (hv : aw_vok n v) : aw_vok m v := fun k e => Nat.lt_of_lt_of_le (hv k e) h
theorem aw_eok_mono {n m : Nat} (h : n ≤ m) {e : va_E} (he : aw_eok n e) : aw_eok m e := by
  cases e with
  | inl a => exact fun f hf j k hk => Nat.lt_of_lt_of_le (he f hf j k hk) h
  | inr o => exact fun v hv => aw_vok_mono h (he v hv)
theorem aw_v_congr {ad ad' : Nat → Nat} {n : Nat} (h : ∀ k, k < n + 1 → ad' k = ad k) {v : Value} (hv : aw_vok n v) : aw_v ad' v = aw_v ad v := by
  cases v with
  | ref k => exact congrArg Value.ref (h (k + 1) (Nat.succ_lt_succ (hv k rfl)))
  | float z => exact congrArg Value.ref (h 0 (Nat.succ_pos _))
  | _ => rfl
theorem aw_vs_congr {ad ad' : Nat → Nat} {n : Nat} (h : ∀ k, k < n + 1 → ad' k = ad k) {vs : List Value} (hv : ∀ v ∈ vs, aw_vok n v) : vs.map (aw_v ad') = vs.map (aw_v ad) :=
  List.map_congr_left fun v hm => aw_v_congr h (hv v hm)
theorem aw_e_congr {cA : Nat → ClassId} {ad ad' : Nat → Nat} {n : Nat} (h : ∀ k, k < n + 1 → ad' k = ad k) {e : va_E} (he : aw_eok n e) : aw_e cA ad' e = aw_e cA ad e := by
  cases e with
  | inl a =>
    obtain ⟨t, m, f | f | f | f | f⟩ := a
    · rfl
    · rfl
    · rfl
    · rfl
    · have hf : (fun j => (f j).map (fun k => ad' (k + 1))) = fun j => (f j).map (fun k => ad (k + 1)) := by
        funext j
        cases hj : f j with
        | none => rfl
        | some k => exact congrArg some (h (k + 1) (Nat.succ_lt_succ (he f rfl j k hj)))
      exact congrArg (fun z : Nat → Option Nat => (Sum.inl (cA t, m, Sum.inr (Sum.inr (Sum.inr (Sum.inr z)))) : va_E)) hf
  | inr o =>
    show Sum.inr (o.1, o.2.map (aw_v ad')) = Sum.inr (o.1, o.2.map (aw_v ad))
    rw [aw_vs_congr h he]
theorem aw_w_at (cA : Nat → ClassId) (ad : Nat → Nat) (w : List va_E) (i : Nat) : (aw_w cA ad w)[i]? = (w[i]?).map (fun e => (ad (i + 1), aw_e cA ad e)) := by
  unfold aw_w
  rw [List.getElem?_mapIdx]
theorem aw_w_some {cA : Nat → ClassId} {ad : Nat → Nat} {w : List va_E} {i : Nat} {e : va_E} (h : w[i]? = some e) : (aw_w cA ad w)[i]? = some (ad (i + 1), aw_e cA ad e) := by
  rw [aw_w_at, h]; rfl
theorem aw_w_len (cA : Nat → ClassId) (ad : Nat → Nat) (w : List va_E) : (aw_w cA ad w).length = w.length := by
  unfold aw_w
  exact List.length_mapIdx
theorem aw_w_set (cA : Nat → ClassId) (ad : Nat → Nat) (w : List va_E) (i : Nat) (e : va_E) : (aw_w cA ad w).set i (ad (i + 1), aw_e cA ad e) = aw_w cA ad (w.set i e) := by
  apply List.ext_getElem?
  intro j
  rw [aw_w_at, List.getElem?_set, List.getElem?_set, aw_w_len]
  by_cases hij : i = j
  · subst hij
    rw [if_pos rfl, if_pos rfl]
    by_cases hl : i < w.length
    · rw [if_pos hl, if_pos hl]; rfl
    · rw [if_neg hl, if_neg hl]; rfl
  · rw [if_neg hij, if_neg hij, aw_w_at]
theorem aw_w_congr {cA : Nat → ClassId} {ad ad' : Nat → Nat} {w : List va_E} (hw : aw_wok w) (h : ∀ k, k < w.length + 1 → ad' k = ad k) : aw_w cA ad' w = aw_w cA ad w := by
  apply List.ext_getElem?
  intro j
  rw [aw_w_at, aw_w_at]
  cases hj : w[j]? with
  | none => rfl
  | some e =>
    have hl : j < w.length := (List.getElem?_eq_some_iff.mp hj).1
    show some (ad' (j + 1), aw_e cA ad' e) = some (ad (j + 1), aw_e cA ad e)
    rw [h (j + 1) (Nat.succ_lt_succ hl), aw_e_congr h (hw j e hj)]
theorem aw_up_old {ad : Nat → Nat} {n q : Nat} : ∀ k, k < n + 1 → va_up ad (n + 1) q k = ad k := fun k hk => va_up_ne ad q (Nat.ne_of_lt hk)
theorem aw_w_push {cA : Nat → ClassId} {ad : Nat → Nat} {w : List va_E} {e : va_E} {q : Nat} (hw : aw_wok w) (he : aw_eok w.length e) : aw_w cA (va_up ad (w.length + 1) q) (w ++ [e]) = aw_w cA ad w ++ [(q, aw_e cA ad e)] := by
  apply List.ext_getElem?
  intro j
  rw [aw_w_at]
  by_cases hl : j < w.length
  · rw [List.getElem?_append_left hl, List.getElem?_append_left (by rw [aw_w_len]; exact hl), aw_w_at]
    obtain ⟨e1, h1⟩ : ∃ e1, w[j]? = some e1 := ⟨_, List.getElem?_eq_getElem hl⟩
    rw [h1]
    show some (va_up ad (w.length + 1) q (j + 1), aw_e cA _ e1) = some (ad (j + 1), aw_e cA ad e1)
    rw [aw_up_old (j + 1) (Nat.succ_lt_succ hl), aw_e_congr aw_up_old (hw j e1 h1)]
  · have hl2 : w.length ≤ j := Nat.le_of_not_lt hl
    rw [List.getElem?_append_right hl2, List.getElem?_append_right (by rw [aw_w_len]; exact hl2), aw_w_len]
    cases hz : j - w.length with
    | zero =>
      have hj : j = w.length := by omega
      subst hj
      show some (va_up ad (w.length + 1) q (w.length + 1), aw_e cA _ e) = some (q, aw_e cA ad e)
      rw [va_up_self, aw_e_congr aw_up_old he]
    | succ z => rfl
theorem aw_wok_push {w : List va_E} {e : va_E} (hw : aw_wok w) (he : aw_eok w.length e) : aw_wok (w ++ [e]) := by
  intro i e1 h
  have hle : w.length ≤ (w ++ [e]).length := by rw [List.length_append]; omega
  by_cases hl : i < w.length
  · rw [List.getElem?_append_left hl] at h
    exact aw_eok_mono hle (hw i e1 h)
  · rw [List.getElem?_append_right (Nat.le_of_not_lt hl)] at h
    cases hz : i - w.length with
    | zero => rw [hz] at h; cases h; exact aw_eok_mono hle he
    | succ z => rw [hz] at h; cases h
theorem aw_wok_set {w : List va_E} {i : Nat} {e : va_E} (hw : aw_wok w) (he : aw_eok w.length e) : aw_wok (w.set i e) := by
  intro j e1 h
  rw [List.length_set]
  rw [List.getElem?_set] at h
  by_cases hij : i = j
  · rw [if_pos hij] at h
    by_cases hl : i < w.length
    · rw [if_pos hl] at h; cases h; exact he
    · rw [if_neg hl] at h; cases h
  · rw [if_neg hij] at h
    exact hw j e1 h
-- locals
def aw_l (ad : Nat → Nat) (loc : List (Option Value)) : List (Nat × Value) := loc.zipIdx.filterMap (fun q => q.1.map (fun v => (q.2, aw_v ad v)))
theorem aw_l_mem {ad : Nat → Nat} {loc : List (Option Value)} {q : Nat × Value} : q ∈ aw_l ad loc ↔ ∃ v, loc[q.1]? = some (some v) ∧ q.2 = aw_v ad v := by
  unfold aw_l
  rw [List.mem_filterMap]
  constructor
  · rintro ⟨⟨o, i⟩, h1, h2⟩
    have h3 := List.mem_zipIdx_iff_getElem?.mp h1
    cases o with
    | none => cases h2
    | some v => cases h2; exact ⟨v, h3, rfl⟩
  · rintro ⟨v, h1, h2⟩
    refine ⟨(some v, q.1), List.mem_zipIdx_iff_getElem?.mpr h1, ?_⟩
    show some (q.1, aw_v ad v) = some q
    rw [← h2]
theorem aw_l_at {ad : Nat → Nat} {loc : List (Option Value)} {ls : Array Slot} {nL i : Nat} {v : Value} (h : lv_has ls nL (aw_l ad loc)) (hi : loc[i]? = some (some v)) : ls[i]? = some (.val (aw_v ad v)) := h.2.2 (i, aw_v ad v) (aw_l_mem.mpr ⟨v, hi, rfl⟩)
def aw_lok (n : Nat) (loc : List (Option Value)) : Prop := ∀ (i : Nat) (v : Value), loc[i]? = some (some v) → aw_vok n v ∧ v.category = 1
theorem aw_l_congr {ad ad' : Nat → Nat} {loc : List (Option Value)} {n : Nat} (h : ∀ k, k < n + 1 → ad' k = ad k) (hl : aw_lok n loc) {ls : Array Slot} {nL : Nat} (hh : lv_has ls nL (aw_l ad loc)) : lv_has ls nL (aw_l ad' loc) := by
  refine ⟨hh.1, hh.2.1, fun q hq => ?_⟩
  obtain ⟨v, h1, h2⟩ := aw_l_mem.mp hq
  rw [h2, aw_v_congr h (hl q.1 v h1).1]
  exact aw_l_at hh h1
theorem aw_l_store {ad : Nat → Nat} {loc loc' : List (Option Value)} {ls : Array Slot} {nL n i : Nat} {v : Value} (hl : aw_lok n loc) (h : lv_has ls nL ((i, aw_v ad v) :: (aw_l ad loc).filter (fun q => !(q.1 == i) && !(q.1 + 1 == i && q.2.category == 2)))) (e : loc.set i (some v) = loc') : lv_has ls nL (aw_l ad loc') := by
  subst e
  refine ⟨h.1, h.2.1, fun q hq => ?_⟩
  obtain ⟨v1, h1, h2⟩ := aw_l_mem.mp hq
  rw [List.getElem?_set] at h1
  by_cases hq1 : i = q.1
  · rw [if_pos hq1] at h1
    by_cases hlt : i < loc.length
    · rw [if_pos hlt] at h1
      cases h1
      exact h.2.2 q (by obtain ⟨a, b⟩ := q; cases hq1; cases h2; exact List.mem_cons_self)
    · rw [if_neg hlt] at h1; cases h1
  · rw [if_neg hq1] at h1
    refine h.2.2 q (List.mem_cons_of_mem _ (List.mem_filter.mpr ⟨aw_l_mem.mpr ⟨v1, h1, h2⟩, ?_⟩))
    have hc := (hl q.1 v1 h1).2
    have h3 : q.2.category = 1 := by rw [h2, aw_v_cat]; exact hc
    have h4 : (q.1 == i) = false := by simpa using fun z => hq1 z.symm
    rw [h4, h3]
    simp
theorem aw_lok_store {n i : Nat} {loc loc' : List (Option Value)} {v : Value} (hl : aw_lok n loc) (hv : aw_vok n v) (hc : v.category = 1) (e : loc.set i (some v) = loc') : aw_lok n loc' := by
  subst e
  intro j v1 h1
  rw [List.getElem?_set] at h1
  by_cases hq1 : i = j
  · rw [if_pos hq1] at h1
    by_cases hlt : i < loc.length
    · rw [if_pos hlt] at h1; cases h1; exact ⟨hv, hc⟩
    · rw [if_neg hlt] at h1; cases h1
  · rw [if_neg hq1] at h1; exact hl j v1 h1
theorem aw_lok_mono {n m : Nat} (h : n ≤ m) {loc : List (Option Value)} (hl : aw_lok n loc) : aw_lok m loc := fun i v e => ⟨aw_vok_mono h (hl i v e).1, (hl i v e).2⟩
/-- a local is forgotten -/
theorem aw_l_drop {ad : Nat → Nat} {loc loc' : List (Option Value)} {ls : Array Slot} {nL : Nat} (h : lv_has ls nL (aw_l ad loc)) (e : ∀ (i : Nat) (v : Value), loc'[i]? = some (some v) → loc[i]? = some (some v)) : lv_has ls nL (aw_l ad loc') := by
  refine ⟨h.1, h.2.1, fun q hq => ?_⟩
  obtain ⟨v1, h1, h2⟩ := aw_l_mem.mp hq
  exact h.2.2 q (aw_l_mem.mpr ⟨v1, e _ _ h1, h2⟩)
-- a method's entry: its arguments, all of one slot
theorem aw_args : ∀ (vs : List Value) (i : Nat), (∀ v ∈ vs, v.category = 1) → ∀ (j : Nat) (v : Value), vs[j]? = some v → (i + j, v) ∈ lv_args i vs
  | [], _, _, j, v, h => by cases h
  | x :: vs, i, hc, 0, v, h => by cases h; exact List.mem_cons_self
  | x :: vs, i, hc, j + 1, v, h => by
    have h1 : x.category = 1 := hc x List.mem_cons_self
    have h2 := aw_args vs (i + 1) (fun v hv => hc v (List.mem_cons_of_mem _ hv)) j v h
    have h3 : lv_args i (x :: vs) = (i, x) :: lv_args (i + 1) vs := by simp [lv_args, h1]
    rw [h3, show i + (j + 1) = i + 1 + j by omega]
    exact List.mem_cons_of_mem _ h2
theorem aw_slen : ∀ (vs : List Value), (∀ v ∈ vs, v.category = 1) → (lg_sl vs).length = vs.length
  | [], _ => rfl
  | x :: vs, hc => by
    have h1 : x.category = 1 := hc x List.mem_cons_self
    have h2 := aw_slen vs (fun v hv => hc v (List.mem_cons_of_mem _ hv))
    unfold lg_sl at h2 ⊢
    rw [List.flatMap_cons, List.length_append, h2, if_neg (by rw [h1]; decide)]
    simp [Nat.add_comm]
