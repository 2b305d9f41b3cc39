/-! ===== the class: its throws ===== -/
/-- a word on casts or on what a class declares -/
def aw_cd : Cond → Bool
  | .castable .. => true
  | .declares .. => true
  | _ => false
theorem aw_cdw {s U : State} {A B : Array Value} {z : Cond} (hW : s.WarmedH U.vm) (h : aw_cd z = true) (hz : z.before A s = true) : z.before B U = true := by
  cases z <;> first | exact (Bool.false_ne_true h).elim | skip
  · exact va_Nw.use rfl (va_Nw.warmD hW (va_Nw.of rfl hz))
  · exact va_Nw.use rfl (va_Nw.warmC hW (va_Nw.of rfl hz))
theorem r_throwD {G : aw_G} {F : aw_F} {kc ks : Nat} {w : List va_E} {pc : Nat} {loc : List (Option Value)} {st : List Value} {Q : aw_R → List va_E → Prop} {cls text : String} {ik is ic : Nat} (hh : aw_hh F = []) (hown7 : aw_own F = RX7) (hcls : Bundle.fit cls = true) (hk : Cond.classLink (aw_own F) ik cls ∈ aw_ztb) (hini9 : Cond.initialized cls ∈ aw_ztb) (hstr : (is, text) ∈ aw_str)
    (hgd : ∀ z ∈ (vx_atS (aw_own F) ic cls ["java/lang/RuntimeException", "java/lang/Exception"]).filter goodWord, z ∈ lw_tbl) (hng : ∀ z ∈ (vx_atS (aw_own F) ic cls ["java/lang/RuntimeException", "java/lang/Exception"]).filter (fun z => !goodWord z), aw_cd z = true ∧ z ∈ lw_tbl) (hot : ∀ z ∈ vx_atS (aw_own F) ic cls ["java/lang/RuntimeException", "java/lang/Exception"], vx_ot z = true)
    (d0 : decode (aw_c F) pc = .ok (.new ik, 3)) (d3 : decode (aw_c F) (pc + 3) = .ok (.dup, 1)) (d4 : decode (aw_c F) (pc + 4) = .ok (.ldc is, 2)) (d6 : decode (aw_c F) (pc + 6) = .ok (.invokespecial ic, 3)) (d9 : decode (aw_c F) (pc + 9) = .ok (.athrow, 1))
    (hfr : 5 < aw_fr F) (hlo9 : (st.map fun v => v.category).sum + 82 ≤ aw_lo F) (hkc9 : 1 ≤ kc) (hks9 : 6 ≤ ks) (hq : Q (.inr cls) w) : AW G F kc ks w pc loc st Q := by
  intro p e s m args below meth c adE nE hS H locs ls ad cells slots hD
  obtain ⟨hx, hb, hml, hr, hlk, hown, htab, hini, hO, hG⟩ := id hS
  obtain ⟨hP, hDD, hSS, hw0, hl0, hlo, hst, hkc, hks, hn9, h0E, had⟩ := id hD
  have hts := aw_hts hS
  have hl : G.1.stackTraces = false := by
    show Launch.stackTraces G.1 = false
    unfold Launch.stackTraces
    rw [hG.1]
    decide +kernel
  obtain ⟨sa, hsa⟩ := hG.2.2.2.2.2.1 _ hstr
  have hsa2 : vk_R (aw_own F) is text sa s := by rw [hown7]; exact vk_R.warm hO.1 hsa
  have hat : ∀ z ∈ vx_atS (aw_own F) ic cls ["java/lang/RuntimeException", "java/lang/Exception"], z.before args s = true :=
    vx_hat (fun z hz => hts z (List.mem_filter.mpr ⟨hgd z hz, (List.mem_filter.mp hz).2⟩)) (fun z hz => hz) (fun z hz => aw_cdw hO.1 (hng z hz).1 (hG.2.1 _ (hng z hz).2))
  have hkp : ∀ a : Nat, a < G.2.1.heap.size → ¬ aw_A G a → s.heap[a]? = G.2.1.heap[a]? := fun a ha _ => hO.2.2 a ha
  exact vx_throwS hx hb hl (own := aw_own F) (cls := cls) (text := text) (names := ["java/lang/RuntimeException", "java/lang/Exception"]) (sa := sa) (A := aw_A G) hown hcls (by decide +kernel) (hts _ hk) (hts _ hini9) hsa2 hat
    (fun z hz => by
      rcases List.mem_cons.mp hz with rfl | hz
      · rfl
      · rcases List.mem_cons.mp hz with rfl | hz
        · rfl
        · exact hot z hz)
    (vx_Zq.moved hO.1.alike (hG.2.2.2.1.kept hkp)) (vx_Zq.moved hO.1.alike (hG.2.2.2.2.1.kept hkp)) hSS (hl0.1.trans hml.symm) d0 d3 d4 d6 d9 (aw_hh_tab htab hh)
    (show 2 + 3 < aw_fr F by omega) (show _ + (13 * (2 + 1) + 43) ≤ aw_lo F by rw [aw_cats]; omega) (show cells + 1 ≤ aw_mc F by omega) (show slots + 6 ≤ aw_ms F by omega) hlk
    (fun t hal hsz hkeep => ⟨w, ad, hq, had, hn9, ⟨⟨Nat.le_trans hO.2.1 (Nat.le_trans hSS.1 hsz), fun q hq9 => by
      rw [hkeep q (Nat.lt_of_lt_of_le hq9 (Nat.le_trans hO.2.1 hSS.1)), hSS.2.1 q (Nat.lt_of_lt_of_le hq9 hO.2.1) (Nat.not_le.mpr hq9)]
      exact hO.2.2 q hq9⟩, va_P.kept hP (fun k q9 h9 => hkeep _ (hP k q9 h9).lt), hDD, hw0⟩, Nat.le_trans hSS.1 hsz⟩) hSS.2.2 (by omega) (by omega)

section S5
set_option maxRecDepth 100000 in
theorem t_ise {G : aw_G} {F : aw_F} {kc ks : Nat} {w : List va_E} {pc : Nat} {loc : List (Option Value)} {st : List Value} {Q : aw_R → List va_E → Prop} {text : String} {is : Nat} (hF : aw_own F = RX7) (hh : aw_hh F = []) (hstr : (is, text) ∈ aw_str) (d0 : decode (aw_c F) pc = .ok (.new 44, 3)) (d3 : decode (aw_c F) (pc + 3) = .ok (.dup, 1)) (d4 : decode (aw_c F) (pc + 4) = .ok (.ldc is, 2)) (d6 : decode (aw_c F) (pc + 6) = .ok (.invokespecial 48, 3)) (d9 : decode (aw_c F) (pc + 9) = .ok (.athrow, 1)) (hfr : 5 < aw_fr F) (hlo9 : (st.map fun v => v.category).sum + 82 ≤ aw_lo F) (hkc9 : 1 ≤ kc) (hks9 : 6 ≤ ks) (hq : Q (.inr "java/lang/IllegalStateException") w) : AW G F kc ks w pc loc st Q :=
  r_throwD hh hF (by decide) (by rw [hF]; exact tw_254) tw_61 hstr (by rw [hF]; decide +kernel) (by rw [hF]; decide +kernel) (by rw [hF]; decide +kernel) d0 d3 d4 d6 d9 hfr hlo9 hkc9 hks9 hq
set_option maxRecDepth 100000 in
theorem t_iae {G : aw_G} {F : aw_F} {kc ks : Nat} {w : List va_E} {pc : Nat} {loc : List (Option Value)} {st : List Value} {Q : aw_R → List va_E → Prop} {text : String} {is : Nat} (hF : aw_own F = RX7) (hh : aw_hh F = []) (hstr : (is, text) ∈ aw_str) (d0 : decode (aw_c F) pc = .ok (.new 75, 3)) (d3 : decode (aw_c F) (pc + 3) = .ok (.dup, 1)) (d4 : decode (aw_c F) (pc + 4) = .ok (.ldc is, 2)) (d6 : decode (aw_c F) (pc + 6) = .ok (.invokespecial 79, 3)) (d9 : decode (aw_c F) (pc + 9) = .ok (.athrow, 1)) (hfr : 5 < aw_fr F) (hlo9 : (st.map fun v => v.category).sum + 82 ≤ aw_lo F) (hkc9 : 1 ≤ kc) (hks9 : 6 ≤ ks) (hq : Q (.inr "java/lang/IllegalArgumentException") w) : AW G F kc ks w pc loc st Q :=
  r_throwD hh hF (by decide) (by rw [hF]; exact tw_456) tw_67 hstr (by rw [hF]; decide +kernel) (by rw [hF]; decide +kernel) (by rw [hF]; decide +kernel) d0 d3 d4 d6 d9 hfr hlo9 hkc9 hks9 hq
set_option maxRecDepth 100000 in
theorem t_ioo {G : aw_G} {F : aw_F} {kc ks : Nat} {w : List va_E} {pc : Nat} {loc : List (Option Value)} {st : List Value} {Q : aw_R → List va_E → Prop} {text : String} {is : Nat} (hF : aw_own F = RX7) (hh : aw_hh F = []) (hstr : (is, text) ∈ aw_str) (d0 : decode (aw_c F) pc = .ok (.new 227, 3)) (d3 : decode (aw_c F) (pc + 3) = .ok (.dup, 1)) (d4 : decode (aw_c F) (pc + 4) = .ok (.ldc is, 2)) (d6 : decode (aw_c F) (pc + 6) = .ok (.invokespecial 231, 3)) (d9 : decode (aw_c F) (pc + 9) = .ok (.athrow, 1)) (hfr : 5 < aw_fr F) (hlo9 : (st.map fun v => v.category).sum + 82 ≤ aw_lo F) (hkc9 : 1 ≤ kc) (hks9 : 6 ≤ ks) (hq : Q (.inr "java/lang/IndexOutOfBoundsException") w) : AW G F kc ks w pc loc st Q :=
  r_throwD hh hF (by decide) (by rw [hF]; exact tw_440) tw_66 hstr (by rw [hF]; decide +kernel) (by rw [hF]; decide +kernel) (by rw [hF]; decide +kernel) d0 d3 d4 d6 d9 hfr hlo9 hkc9 hks9 hq
end S5
