/-! ===== the class: a Formula in the world, its scratch cell set ===== -/
def fm (w : List va_E) (a n : Nat) (lt : Int32) (f : Nat → Int32) : Prop := w[a]? = some (.inr (2, [.ref (a + 1), .ref (a + 3), .ref (a + 2), .int lt])) ∧ w[a + 1]? = some (.inl (0, n, .inl f)) ∧ (∃ g0 : Nat → Int32, w[a + 3]? = some (.inl (0, n, .inl g0))) ∧ n ≤ 40
def fW (w : List va_E) (a n : Nat) (g : Nat → Int32) : List va_E := w.set (a + 3) (.inl (0, n, .inl g))
section FMs
variable {G : aw_G} {F : aw_F} {kc ks : Nat} {w : List va_E} {pc : Nat} {loc : List (Option Value)} {st : List Value} {Q : aw_R → List va_E → Prop} {a n : Nat} {lt : Int32} {f g : Nat → Int32}
theorem fW_ne {k : Nat} (h : k ≠ a + 3) : (fW w a n g)[k]? = w[k]? := List.getElem?_set_ne (Ne.symm h)
theorem fW_at (hf : fm w a n lt f) : (fW w a n g)[a + 3]? = some (.inl (0, n, .inl g)) := by
  obtain ⟨g0, h⟩ := hf.2.2.1
  exact List.getElem?_set_self (List.getElem?_eq_some_iff.mp h).1
theorem fW_self {g0 : Nat → Int32} (h : w[a + 3]? = some (.inl (0, n, .inl g0))) : fW w a n g0 = w := by
  unfold fW
  obtain ⟨h1, h2⟩ := List.getElem?_eq_some_iff.mp h
  rw [← h2]
  exact List.set_getElem_self h1
theorem f_g9 (hf : fm w a n lt f) (hF : aw_own F = RX2) (hdg : decode (aw_c F) pc = .ok (.getfield 9, 3)) (kk : AW G F kc ks (fW w a n g) (pc + 3) loc (.ref (a + 1) :: st) Q) : AW G F kc ks (fW w a n g) pc loc (.ref a :: st) Q := g_X2_9 hF ((fW_ne (by omega)).trans hf.1) rfl hdg kk
theorem f_g15 (hf : fm w a n lt f) (hF : aw_own F = RX2) (hdg : decode (aw_c F) pc = .ok (.getfield 15, 3)) (kk : AW G F kc ks (fW w a n g) (pc + 3) loc (.ref (a + 3) :: st) Q) : AW G F kc ks (fW w a n g) pc loc (.ref a :: st) Q := g_X2_15 hF ((fW_ne (by omega)).trans hf.1) rfl hdg kk
theorem f_l9 (hf : fm w a n lt f) (hdg : decode (aw_c F) pc = .ok (.arraylength, 1)) (kk : AW G F kc ks (fW w a n g) (pc + 1) loc (.int (nI n) :: st) Q) : AW G F kc ks (fW w a n g) pc loc (.ref (a + 1) :: st) Q := r_alen (t := 0) (fun _ => rfl) ((fW_ne (by omega)).trans hf.2.1) rfl hdg kk
theorem f_l15 (hf : fm w a n lt f) (hdg : decode (aw_c F) pc = .ok (.arraylength, 1)) (kk : AW G F kc ks (fW w a n g) (pc + 1) loc (.int (nI n) :: st) Q) : AW G F kc ks (fW w a n g) pc loc (.ref (a + 3) :: st) Q := r_alen (t := 0) (fun _ => rfl) (fW_at hf) rfl hdg kk
theorem f_ld9 {i : Int32} (j : Nat) (hf : fm w a n lt f) (hi : i = nI j ∧ j < n) (hdg : decode (aw_c F) pc = .ok (.iaload, 1)) (kk : AW G F kc ks (fW w a n g) (pc + 1) loc (.int (f j) :: st) Q) : AW G F kc ks (fW w a n g) pc loc (.int i :: .ref (a + 1) :: st) Q := by
  obtain ⟨rfl, hj⟩ := hi
  have := hf.2.2.2
  refine r_iaload ((fW_ne (by omega)).trans hf.2.1) (vp_in_nI hj (by omega)) hdg ?_
  rw [nI_clamp (by omega)]
  exact kk
theorem f_ld {i : Int32} (j : Nat) (hf : fm w a n lt f) (hi : i = nI j ∧ j < n) (hdg : decode (aw_c F) pc = .ok (.iaload, 1)) (kk : AW G F kc ks (fW w a n g) (pc + 1) loc (.int (g j) :: st) Q) : AW G F kc ks (fW w a n g) pc loc (.int i :: .ref (a + 3) :: st) Q := by
  obtain ⟨rfl, hj⟩ := hi
  have := hf.2.2.2
  refine r_iaload (fW_at hf) (vp_in_nI hj (by omega)) hdg ?_
  rw [nI_clamp (by omega)]
  exact kk
theorem f_st {i x : Int32} (j : Nat) (hf : fm w a n lt f) (hi : i = nI j ∧ j < n) (hdg : decode (aw_c F) pc = .ok (.iastore, 1)) (kk : AW G F kc ks (fW w a n (upd g j x)) (pc + 1) loc st Q) : AW G F kc ks (fW w a n g) pc loc (.int x :: .int i :: .ref (a + 3) :: st) Q := by
  obtain ⟨rfl, hj⟩ := hi
  have := hf.2.2.2
  refine r_iastore (w' := fW w a n (upd g j x)) (fW_at hf) (vp_in_nI hj (by omega)) hdg ?_ kk
  rw [nI_clamp (by omega)]
  exact List.set_set ..
end FMs
/-- what readFor leaves -/
def rfQ (w : List va_E) (a n : Nat) (v : Int32) : aw_R → List va_E → Prop := fun r w' => r = .inl (some (.int v)) ∧ ∃ g : Nat → Int32, w' = fW w a n g
theorem stc_c {c : Int32} (h : c < 2000) : stc c = c := if_pos h
theorem stc_neg {c : Int32} (h : ¬ c < 2000) (h2 : c ≤ 2200) (hk : 0 < rkN (c - 2000)) : stc c < 0 ∧ stc c ≠ -33 ∧ -(stc c) = c - 2000 := by
  obtain ⟨d, rfl⟩ : ∃ d, c = 2000 + d := ⟨c - 2000, by rw [Int32.add_comm, Int32.sub_add_cancel]⟩
  rw [sg_back] at hk ⊢
  rw [stc_sg hk]
  rcases rkN_pos hk with rfl | rfl | rfl | rfl | rfl | rfl | rfl | rfl <;> decide
/-- the signs of a row are signs -/
def sgL (row : List Int32) : Prop := ∀ c ∈ row, ¬ c < 2000 → c = 2033 ∨ 0 < rkN (c - 2000)
