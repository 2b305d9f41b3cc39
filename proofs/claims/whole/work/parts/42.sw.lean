/-! ===== the class: its Source as a piece of the world ===== -/
def sW (c0 : va_E) (tx : Nat → Int32) (tn p k l : Nat) (lt : Int32) (st pn : Nat → Int32) (tl : List va_E) : List va_E := c0 :: .inr (3, [.ref 2, .int (nI tn), .int (nI p), .ref 3, .int (nI k), .ref 4, .int (nI l), .int lt]) :: .inl (2, 40, .inl tx) :: .inl (0, 40, .inl st) :: .inl (0, 80, .inl pn) :: tl
section SW
variable {G : aw_G} {F : aw_F} {kc ks : Nat} {pc : Nat} {loc : List (Option Value)} {sk : List Value} {Q : aw_R → List va_E → Prop} {c0 : va_E} {tx : Nat → Int32} {tn p k l : Nat} {lt : Int32} {st pn : Nat → Int32} {tl : List va_E}
theorem sg_9 (hF : aw_own F = RX4) (hdg : decode (aw_c F) pc = .ok (.getfield 9, 3)) (kk : AW G F kc ks (sW c0 tx tn p k l lt st pn tl) (pc + 3) loc (.ref 2 :: sk) Q) : AW G F kc ks (sW c0 tx tn p k l lt st pn tl) pc loc (.ref 1 :: sk) Q := g_X4_9 hF rfl rfl hdg kk
theorem sg_15 (hF : aw_own F = RX4) (hdg : decode (aw_c F) pc = .ok (.getfield 15, 3)) (kk : AW G F kc ks (sW c0 tx tn p k l lt st pn tl) (pc + 3) loc (.int (nI tn) :: sk) Q) : AW G F kc ks (sW c0 tx tn p k l lt st pn tl) pc loc (.ref 1 :: sk) Q := g_X4_15 hF rfl rfl hdg kk
theorem sg_19 (hF : aw_own F = RX4) (hdg : decode (aw_c F) pc = .ok (.getfield 19, 3)) (kk : AW G F kc ks (sW c0 tx tn p k l lt st pn tl) (pc + 3) loc (.int (nI p) :: sk) Q) : AW G F kc ks (sW c0 tx tn p k l lt st pn tl) pc loc (.ref 1 :: sk) Q := g_X4_19 hF rfl rfl hdg kk
theorem sg_22 (hF : aw_own F = RX4) (hdg : decode (aw_c F) pc = .ok (.getfield 22, 3)) (kk : AW G F kc ks (sW c0 tx tn p k l lt st pn tl) (pc + 3) loc (.ref 3 :: sk) Q) : AW G F kc ks (sW c0 tx tn p k l lt st pn tl) pc loc (.ref 1 :: sk) Q := g_X4_22 hF rfl rfl hdg kk
theorem sg_26 (hF : aw_own F = RX4) (hdg : decode (aw_c F) pc = .ok (.getfield 26, 3)) (kk : AW G F kc ks (sW c0 tx tn p k l lt st pn tl) (pc + 3) loc (.int (nI k) :: sk) Q) : AW G F kc ks (sW c0 tx tn p k l lt st pn tl) pc loc (.ref 1 :: sk) Q := g_X4_26 hF rfl rfl hdg kk
theorem sg_29 (hF : aw_own F = RX4) (hdg : decode (aw_c F) pc = .ok (.getfield 29, 3)) (kk : AW G F kc ks (sW c0 tx tn p k l lt st pn tl) (pc + 3) loc (.ref 4 :: sk) Q) : AW G F kc ks (sW c0 tx tn p k l lt st pn tl) pc loc (.ref 1 :: sk) Q := g_X4_29 hF rfl rfl hdg kk
theorem sg_32 (hF : aw_own F = RX4) (hdg : decode (aw_c F) pc = .ok (.getfield 32, 3)) (kk : AW G F kc ks (sW c0 tx tn p k l lt st pn tl) (pc + 3) loc (.int (nI l) :: sk) Q) : AW G F kc ks (sW c0 tx tn p k l lt st pn tl) pc loc (.ref 1 :: sk) Q := g_X4_32 hF rfl rfl hdg kk
theorem sg_35 (hF : aw_own F = RX4) (hdg : decode (aw_c F) pc = .ok (.getfield 35, 3)) (kk : AW G F kc ks (sW c0 tx tn p k l lt st pn tl) (pc + 3) loc (.int lt :: sk) Q) : AW G F kc ks (sW c0 tx tn p k l lt st pn tl) pc loc (.ref 1 :: sk) Q := g_X4_35 hF rfl rfl hdg kk
theorem sp_15 {q : Nat} (hF : aw_own F = RX4) (hdg : decode (aw_c F) pc = .ok (.putfield 15, 3)) (kk : AW G F kc ks (sW c0 tx q p k l lt st pn tl) (pc + 3) loc sk Q) : AW G F kc ks (sW c0 tx tn p k l lt st pn tl) pc loc (.int (nI q) :: .ref 1 :: sk) Q := p_X4_15 hF rfl (Nat.le_of_ble_eq_true rfl) hdg rfl kk
theorem sp_19 {q : Nat} (hF : aw_own F = RX4) (hdg : decode (aw_c F) pc = .ok (.putfield 19, 3)) (kk : AW G F kc ks (sW c0 tx tn q k l lt st pn tl) (pc + 3) loc sk Q) : AW G F kc ks (sW c0 tx tn p k l lt st pn tl) pc loc (.int (nI q) :: .ref 1 :: sk) Q := p_X4_19 hF rfl (Nat.le_of_ble_eq_true rfl) hdg rfl kk
theorem sp_26 {q : Nat} (hF : aw_own F = RX4) (hdg : decode (aw_c F) pc = .ok (.putfield 26, 3)) (kk : AW G F kc ks (sW c0 tx tn p q l lt st pn tl) (pc + 3) loc sk Q) : AW G F kc ks (sW c0 tx tn p k l lt st pn tl) pc loc (.int (nI q) :: .ref 1 :: sk) Q := p_X4_26 hF rfl (Nat.le_of_ble_eq_true rfl) hdg rfl kk
theorem sp_32 {q : Nat} (hF : aw_own F = RX4) (hdg : decode (aw_c F) pc = .ok (.putfield 32, 3)) (kk : AW G F kc ks (sW c0 tx tn p k q lt st pn tl) (pc + 3) loc sk Q) : AW G F kc ks (sW c0 tx tn p k l lt st pn tl) pc loc (.int (nI q) :: .ref 1 :: sk) Q := p_X4_32 hF rfl (Nat.le_of_ble_eq_true rfl) hdg rfl kk
theorem sp_35 {q : Int32} (hF : aw_own F = RX4) (hdg : decode (aw_c F) pc = .ok (.putfield 35, 3)) (kk : AW G F kc ks (sW c0 tx tn p k l q st pn tl) (pc + 3) loc sk Q) : AW G F kc ks (sW c0 tx tn p k l lt st pn tl) pc loc (.int q :: .ref 1 :: sk) Q := p_X4_35 hF rfl (Nat.le_of_ble_eq_true rfl) hdg rfl kk
theorem sl_2 (hdg : decode (aw_c F) pc = .ok (.arraylength, 1)) (kk : AW G F kc ks (sW c0 tx tn p k l lt st pn tl) (pc + 1) loc (.int (nI 40) :: sk) Q) : AW G F kc ks (sW c0 tx tn p k l lt st pn tl) pc loc (.ref 2 :: sk) Q := r_alen (t := 2) (fun _ => rfl) rfl rfl hdg kk
theorem sl_3 (hdg : decode (aw_c F) pc = .ok (.arraylength, 1)) (kk : AW G F kc ks (sW c0 tx tn p k l lt st pn tl) (pc + 1) loc (.int (nI 40) :: sk) Q) : AW G F kc ks (sW c0 tx tn p k l lt st pn tl) pc loc (.ref 3 :: sk) Q := r_alen (t := 0) (fun _ => rfl) rfl rfl hdg kk
theorem sl_4 (hdg : decode (aw_c F) pc = .ok (.arraylength, 1)) (kk : AW G F kc ks (sW c0 tx tn p k l lt st pn tl) (pc + 1) loc (.int (nI 80) :: sk) Q) : AW G F kc ks (sW c0 tx tn p k l lt st pn tl) pc loc (.ref 4 :: sk) Q := r_alen (t := 0) (fun _ => rfl) rfl rfl hdg kk
theorem sc_2 {i : Int32} (j : Nat) (hi : i = nI j ∧ j < 40) (hdg : decode (aw_c F) pc = .ok (.caload, 1)) (kk : AW G F kc ks (sW c0 tx tn p k l lt st pn tl) (pc + 1) loc (.int (tx j) :: sk) Q) : AW G F kc ks (sW c0 tx tn p k l lt st pn tl) pc loc (.int i :: .ref 2 :: sk) Q := by
  obtain ⟨rfl, hj⟩ := hi
  refine r_caload (n := 40) (f := tx) rfl (nI_in hj (by decide)) hdg ?_
  rw [nI_clamp (by omega)]
  exact kk
theorem sc_4 {i : Int32} (j : Nat) (hi : i = nI j ∧ j < 80) (hdg : decode (aw_c F) pc = .ok (.iaload, 1)) (kk : AW G F kc ks (sW c0 tx tn p k l lt st pn tl) (pc + 1) loc (.int (pn j) :: sk) Q) : AW G F kc ks (sW c0 tx tn p k l lt st pn tl) pc loc (.int i :: .ref 4 :: sk) Q := by
  obtain ⟨rfl, hj⟩ := hi
  refine r_iaload (n := 80) (f := pn) rfl (nI_in hj (by decide)) hdg ?_
  rw [nI_clamp (by omega)]
  exact kk
theorem ss_3 {i x : Int32} (j : Nat) (hi : i = nI j ∧ j < 40) (hdg : decode (aw_c F) pc = .ok (.iastore, 1)) (kk : AW G F kc ks (sW c0 tx tn p k l lt (upd st j x) pn tl) (pc + 1) loc sk Q) : AW G F kc ks (sW c0 tx tn p k l lt st pn tl) pc loc (.int x :: .int i :: .ref 3 :: sk) Q := by
  obtain ⟨rfl, hj⟩ := hi
  refine r_iastore (n := 40) (f := st) rfl (nI_in hj (by decide)) hdg rfl ?_
  rw [nI_clamp (by omega)]
  exact kk
theorem ss_4 {i x : Int32} (j : Nat) (hi : i = nI j ∧ j < 80) (hdg : decode (aw_c F) pc = .ok (.iastore, 1)) (kk : AW G F kc ks (sW c0 tx tn p k l lt st (upd pn j x) tl) (pc + 1) loc sk Q) : AW G F kc ks (sW c0 tx tn p k l lt st pn tl) pc loc (.int x :: .int i :: .ref 4 :: sk) Q := by
  obtain ⟨rfl, hj⟩ := hi
  refine r_iastore (n := 80) (f := pn) rfl (nI_in hj (by decide)) hdg rfl ?_
  rw [nI_clamp (by omega)]
  exact kk
theorem ss_2 {i x : Int32} (j : Nat) (hi : i = nI j ∧ j < 40) (hdg : decode (aw_c F) pc = .ok (.castore, 1)) (kk : AW G F kc ks (sW c0 (upd tx j (vp_nar .char x)) tn p k l lt st pn tl) (pc + 1) loc sk Q) : AW G F kc ks (sW c0 tx tn p k l lt st pn tl) pc loc (.int x :: .int i :: .ref 2 :: sk) Q := by
  obtain ⟨rfl, hj⟩ := hi
  refine r_castore (n := 40) (f := tx) rfl (nI_in hj (by decide)) hdg rfl ?_
  rw [nI_clamp (by omega)]
  exact kk
end SW
