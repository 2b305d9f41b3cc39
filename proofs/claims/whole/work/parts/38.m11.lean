/-! ===== the reference: the plain text ===== -/
section M11
def lP (sc : Nat → Int32) (ar : Nat → Nat → Int32) (L : List Int32) : Prop := sc 24 = nI L.length ∧ arow (ar 23) L ∧ L.length ≤ 200
theorem am_laysL {G : aw_G} {P T : List va_E} {sc : Nat → Int32} {ar : Nat → Nat → Int32} (hP : P.length = 12) {L : List Int32} (h : lP sc ar L) (hl : L.length < 200) (x : Int32) : AM G fX8_lays [.ref 12, .int x] (mw P sc ar T) (qm P T (.inl none) (fun sc2 ar2 => ag [24] [23] sc ar sc2 ar2 ∧ lP sc2 ar2 (L ++ [x]))) := by
  refine AM_post ?_ (am_lays hP x L.length ⟨h.1, hl⟩)
  rintro r w' ⟨h1, rfl⟩
  refine ⟨h1, _, _, rfl, ag_a (ag_s ag_rf 24 _ (by decide)) 23 _ (by decide), ?_, ?_, ?_⟩
  · rw [upd_s, h.1, List.length_append]; exact nI_1 _
  · rw [va_up_self]; exact arow_app h.2.1
  · simp; omega
set_option maxRecDepth 100000 in
set_option maxHeartbeats 4000000 in
theorem am_putNumber {G : aw_G} {P T : List va_E} {sc : Nat → Int32} {ar : Nat → Nat → Int32} (hP : P.length = 12) {L : List Int32} (h : lP sc ar L) (hl : L.length + 3 ≤ 200) (c : Int32) : AM G fX8_putNumber [.ref 12, .int c] (mw P sc ar T) (qm P T (.inl none) (fun sc2 ar2 => ag [24] [23] sc ar sc2 ar2 ∧ lP sc2 ar2 (L ++ dgs c))) := by
  refine AM_of (by decide) rfl rfl (Nat.le_of_ble_eq_true rfl) ?_
  show AW G fX8_putNumber 0 0 (mw P sc ar T) 0 [some (.ref 12), some (.int c)] [] _
  refine r_iload_n (pc := 0) dX8_putNumber_0 rfl rfl ?_
  refine r_bipush (pc := 1) (v := 99) dX8_putNumber_1 (by decide) ?_
  refine r_icmp_le (pc := 3) (tgt := 17) dX8_putNumber_3 (by decide) (fun h3 => ?_) (fun h3 => ?_)
  · refine r_iload_n (pc := 17) dX8_putNumber_17 rfl rfl ?_
    refine r_bipush (pc := 18) (v := 9) dX8_putNumber_18 (by decide) ?_
    refine r_icmp_le (pc := 20) (tgt := 37) dX8_putNumber_20 (by decide) (fun h20 => ?_) (fun h20 => ?_)
    · refine r_aload_n (pc := 37) dX8_putNumber_37 rfl rfl ?_
      refine r_bipush (pc := 38) (v := 48) dX8_putNumber_38 (by decide) ?_
      refine r_iload_n (pc := 40) dX8_putNumber_40 rfl rfl ?_
      refine r_bipush (pc := 41) (v := 10) dX8_putNumber_41 (by decide) ?_
      refine r_irem (pc := 43) dX8_putNumber_43 (by decide) ?_
      refine r_iadd (pc := 44) dX8_putNumber_44 ?_
      refine s_X8_184 (pc := 45) (kc' := 0) (ks' := 0) rfl rfl (am_laysL hP h (by (try simp); omega) _) (mw_o hP) (Nat.le_of_ble_eq_true rfl) (Nat.le_of_ble_eq_true rfl) (Nat.le_of_ble_eq_true rfl) (Nat.le_of_ble_eq_true rfl) (by exact (Nat.le_of_ble_eq_true rfl)) rfl (List.forall_mem_cons.mpr ⟨rfl, (List.forall_mem_cons.mpr ⟨rfl, fun _ h => nomatch h⟩)⟩) rfl dX8_putNumber_45 aw_kmt (aw_kmv (fun sc45 ar45 hC45 => ?_))
      refine r_vret (pc := 48) rfl dX8_putNumber_48 ?_
      refine ⟨rfl, _, _, rfl, (ag_tr ag_rf hC45.1), ?_⟩
      rw [show dgs c = _ from by unfold dgs; rw [if_pos h3, if_pos h20]]
      simpa [rem10, List.append_assoc] using hC45.2
    · refine r_aload_n (pc := 23) dX8_putNumber_23 rfl rfl ?_
      refine r_bipush (pc := 24) (v := 48) dX8_putNumber_24 (by decide) ?_
      refine r_iload_n (pc := 26) dX8_putNumber_26 rfl rfl ?_
      refine r_bipush (pc := 27) (v := 10) dX8_putNumber_27 (by decide) ?_
      refine r_idiv (pc := 29) dX8_putNumber_29 (by decide) ?_
      refine r_bipush (pc := 30) (v := 10) dX8_putNumber_30 (by decide) ?_
      refine r_irem (pc := 32) dX8_putNumber_32 (by decide) ?_
      refine r_iadd (pc := 33) dX8_putNumber_33 ?_
      refine s_X8_184 (pc := 34) (kc' := 0) (ks' := 0) rfl rfl (am_laysL hP h (by (try simp); omega) _) (mw_o hP) (Nat.le_of_ble_eq_true rfl) (Nat.le_of_ble_eq_true rfl) (Nat.le_of_ble_eq_true rfl) (Nat.le_of_ble_eq_true rfl) (by exact (Nat.le_of_ble_eq_true rfl)) rfl (List.forall_mem_cons.mpr ⟨rfl, (List.forall_mem_cons.mpr ⟨rfl, fun _ h => nomatch h⟩)⟩) rfl dX8_putNumber_34 aw_kmt (aw_kmv (fun sc34 ar34 hC34 => ?_))
      refine r_aload_n (pc := 37) dX8_putNumber_37 rfl rfl ?_
      refine r_bipush (pc := 38) (v := 48) dX8_putNumber_38 (by decide) ?_
      refine r_iload_n (pc := 40) dX8_putNumber_40 rfl rfl ?_
      refine r_bipush (pc := 41) (v := 10) dX8_putNumber_41 (by decide) ?_
      refine r_irem (pc := 43) dX8_putNumber_43 (by decide) ?_
      refine r_iadd (pc := 44) dX8_putNumber_44 ?_
      refine s_X8_184 (pc := 45) (kc' := 0) (ks' := 0) rfl rfl (am_laysL hP hC34.2 (by (try simp); omega) _) (mw_o hP) (Nat.le_of_ble_eq_true rfl) (Nat.le_of_ble_eq_true rfl) (Nat.le_of_ble_eq_true rfl) (Nat.le_of_ble_eq_true rfl) (by exact (Nat.le_of_ble_eq_true rfl)) rfl (List.forall_mem_cons.mpr ⟨rfl, (List.forall_mem_cons.mpr ⟨rfl, fun _ h => nomatch h⟩)⟩) rfl dX8_putNumber_45 aw_kmt (aw_kmv (fun sc45 ar45 hC45 => ?_))
      refine r_vret (pc := 48) rfl dX8_putNumber_48 ?_
      refine ⟨rfl, _, _, rfl, (ag_tr (ag_tr ag_rf hC34.1) hC45.1), ?_⟩
      rw [show dgs c = _ from by unfold dgs; rw [if_pos h3, if_neg h20]]
      simpa [rem10, List.append_assoc] using hC45.2
  · refine r_aload_n (pc := 6) dX8_putNumber_6 rfl rfl ?_
    refine r_bipush (pc := 7) (v := 48) dX8_putNumber_7 (by decide) ?_
    refine r_iload_n (pc := 9) dX8_putNumber_9 rfl rfl ?_
    refine r_bipush (pc := 10) (v := 100) dX8_putNumber_10 (by decide) ?_
    refine r_idiv (pc := 12) dX8_putNumber_12 (by decide) ?_
    refine r_iadd (pc := 13) dX8_putNumber_13 ?_
    refine s_X8_184 (pc := 14) (kc' := 0) (ks' := 0) rfl rfl (am_laysL hP h (by (try simp); omega) _) (mw_o hP) (Nat.le_of_ble_eq_true rfl) (Nat.le_of_ble_eq_true rfl) (Nat.le_of_ble_eq_true rfl) (Nat.le_of_ble_eq_true rfl) (by exact (Nat.le_of_ble_eq_true rfl)) rfl (List.forall_mem_cons.mpr ⟨rfl, (List.forall_mem_cons.mpr ⟨rfl, fun _ h => nomatch h⟩)⟩) rfl dX8_putNumber_14 aw_kmt (aw_kmv (fun sc14 ar14 hC14 => ?_))
    refine r_iload_n (pc := 17) dX8_putNumber_17 rfl rfl ?_
    refine r_bipush (pc := 18) (v := 9) dX8_putNumber_18 (by decide) ?_
    refine r_icmp_le (pc := 20) (tgt := 37) dX8_putNumber_20 (by decide) (fun h20 => ?_) (fun h20 => ?_)
    · refine r_aload_n (pc := 37) dX8_putNumber_37 rfl rfl ?_
      refine r_bipush (pc := 38) (v := 48) dX8_putNumber_38 (by decide) ?_
      refine r_iload_n (pc := 40) dX8_putNumber_40 rfl rfl ?_
      refine r_bipush (pc := 41) (v := 10) dX8_putNumber_41 (by decide) ?_
      refine r_irem (pc := 43) dX8_putNumber_43 (by decide) ?_
      refine r_iadd (pc := 44) dX8_putNumber_44 ?_
      refine s_X8_184 (pc := 45) (kc' := 0) (ks' := 0) rfl rfl (am_laysL hP hC14.2 (by (try simp); omega) _) (mw_o hP) (Nat.le_of_ble_eq_true rfl) (Nat.le_of_ble_eq_true rfl) (Nat.le_of_ble_eq_true rfl) (Nat.le_of_ble_eq_true rfl) (by exact (Nat.le_of_ble_eq_true rfl)) rfl (List.forall_mem_cons.mpr ⟨rfl, (List.forall_mem_cons.mpr ⟨rfl, fun _ h => nomatch h⟩)⟩) rfl dX8_putNumber_45 aw_kmt (aw_kmv (fun sc45 ar45 hC45 => ?_))
      refine r_vret (pc := 48) rfl dX8_putNumber_48 ?_
      refine ⟨rfl, _, _, rfl, (ag_tr (ag_tr ag_rf hC14.1) hC45.1), ?_⟩
      rw [show dgs c = _ from by unfold dgs; rw [if_neg h3, if_pos h20]]
      simpa [rem10, List.append_assoc] using hC45.2
    · refine r_aload_n (pc := 23) dX8_putNumber_23 rfl rfl ?_
      refine r_bipush (pc := 24) (v := 48) dX8_putNumber_24 (by decide) ?_
      refine r_iload_n (pc := 26) dX8_putNumber_26 rfl rfl ?_
      refine r_bipush (pc := 27) (v := 10) dX8_putNumber_27 (by decide) ?_
      refine r_idiv (pc := 29) dX8_putNumber_29 (by decide) ?_
      refine r_bipush (pc := 30) (v := 10) dX8_putNumber_30 (by decide) ?_
      refine r_irem (pc := 32) dX8_putNumber_32 (by decide) ?_
      refine r_iadd (pc := 33) dX8_putNumber_33 ?_
      refine s_X8_184 (pc := 34) (kc' := 0) (ks' := 0) rfl rfl (am_laysL hP hC14.2 (by (try simp); omega) _) (mw_o hP) (Nat.le_of_ble_eq_true rfl) (Nat.le_of_ble_eq_true rfl) (Nat.le_of_ble_eq_true rfl) (Nat.le_of_ble_eq_true rfl) (by exact (Nat.le_of_ble_eq_true rfl)) rfl (List.forall_mem_cons.mpr ⟨rfl, (List.forall_mem_cons.mpr ⟨rfl, fun _ h => nomatch h⟩)⟩) rfl dX8_putNumber_34 aw_kmt (aw_kmv (fun sc34 ar34 hC34 => ?_))
      refine r_aload_n (pc := 37) dX8_putNumber_37 rfl rfl ?_
      refine r_bipush (pc := 38) (v := 48) dX8_putNumber_38 (by decide) ?_
      refine r_iload_n (pc := 40) dX8_putNumber_40 rfl rfl ?_
      refine r_bipush (pc := 41) (v := 10) dX8_putNumber_41 (by decide) ?_
      refine r_irem (pc := 43) dX8_putNumber_43 (by decide) ?_
      refine r_iadd (pc := 44) dX8_putNumber_44 ?_
      refine s_X8_184 (pc := 45) (kc' := 0) (ks' := 0) rfl rfl (am_laysL hP hC34.2 (by (try simp); omega) _) (mw_o hP) (Nat.le_of_ble_eq_true rfl) (Nat.le_of_ble_eq_true rfl) (Nat.le_of_ble_eq_true rfl) (Nat.le_of_ble_eq_true rfl) (by exact (Nat.le_of_ble_eq_true rfl)) rfl (List.forall_mem_cons.mpr ⟨rfl, (List.forall_mem_cons.mpr ⟨rfl, fun _ h => nomatch h⟩)⟩) rfl dX8_putNumber_45 aw_kmt (aw_kmv (fun sc45 ar45 hC45 => ?_))
      refine r_vret (pc := 48) rfl dX8_putNumber_48 ?_
      refine ⟨rfl, _, _, rfl, (ag_tr (ag_tr (ag_tr ag_rf hC14.1) hC34.1) hC45.1), ?_⟩
      rw [show dgs c = _ from by unfold dgs; rw [if_neg h3, if_neg h20]]
      simpa [rem10, List.append_assoc] using hC45.2

theorem bsc_le : ∀ (l : List Int32) (n k : Nat), bsc l n = some k → n ≤ k ∧ k ≤ l.length
  | l, 0, k, h => by
    cases l <;> (rw [bsc] at h; cases h; exact ⟨Nat.le_refl _, Nat.zero_le _⟩)
  | [], n + 1, k, h => by rw [bsc] at h; cases h
  | c :: cs, n + 1, k, h => by
    rw [bsc] at h
    have key : ∀ m, n ≤ m → ((bsc cs m).map (· + 1) = some k → n + 1 ≤ k ∧ k ≤ (c :: cs).length) := by
      intro m hm h
      cases hb : bsc cs m with
      | none => rw [hb] at h; cases h
      | some j =>
        rw [hb] at h
        have := bsc_le cs m j hb
        have h2 : j + 1 = k := by injection h
        simp
        omega
    split at h
    · exact key _ (Nat.le_refl _) h
    · split at h
      · exact key _ (by omega) h
      · exact key _ (by omega) h
theorem bsc_st {c : Int32} {cs : List Int32} {n k : Nat} (h : bsc (c :: cs) (n + 1) = some k) : ∃ j, k = j + 1 ∧ bsc cs (if c < 2000 then n else if c = 2033 then n + 1 else n + 2) = some j := by
  rw [bsc] at h
  have key : ∀ m, (bsc cs m).map (· + 1) = some k → ∃ j, k = j + 1 ∧ bsc cs m = some j := by
    intro m h
    cases hb : bsc cs m with
    | none => rw [hb] at h; cases h
    | some j => rw [hb] at h; exact ⟨j, by injection h with h; exact h.symm, rfl⟩
  split at h
  · rename_i h1; rw [if_pos h1]; exact key _ h
  · rename_i h1
    rw [if_neg h1]
    split at h
    · rename_i h2; rw [if_pos h2]; exact key _ h
    · rename_i h2; rw [if_neg h2]; exact key _ h
set_option maxRecDepth 100000 in
set_option maxHeartbeats 4000000 in
theorem bo_loop {G : aw_G} {P T : List va_E} {sc : Nat → Int32} {ar : Nat → Nat → Int32} (hP : P.length = 12) (p : Nat) (z : Int32) : ∀ (l : List Int32) (n k : Nat), bsc l n = some k → (∀ (j : Nat) (x : Int32), l.reverse[j]? = some x → ar 2 (p + j) = x) → p + l.length ≤ 4400 → AW G fX8_beginOf 0 0 (mw P sc ar T) 6 [some (.ref 12), some (.int z), some (.int (nI (n))), some (.int (nI (p + l.length)))] [] (qx (.inl (some (.int (nI (p + l.length - k))))) (mw P sc ar T)) := by
  intro l
  induction l with
  | nil =>
    intro n k hb hc hp
    cases n with
    | succ n => rw [bsc] at hb; cases hb
    | zero =>
      rw [bsc] at hb
      cases hb
      refine r_iload_n (pc := 6) dX8_beginOf_6 rfl rfl ?_
      refine r_if_le (pc := 7) (tgt := 52) dX8_beginOf_7 (by decide) (fun h7 => ?_) (fun h => absurd (by decide) h)
      refine r_iload_n (pc := 52) dX8_beginOf_52 rfl rfl ?_
      refine r_iret (pc := 53) rfl rfl dX8_beginOf_53 ?_
      exact ⟨rfl, rfl⟩
  | cons c cs ih =>
    intro n k hb hc hp
    cases n with
    | zero =>
      rw [show k = 0 by rw [bsc] at hb; cases hb; rfl]
      refine r_iload_n (pc := 6) dX8_beginOf_6 rfl rfl ?_
      refine r_if_le (pc := 7) (tgt := 52) dX8_beginOf_7 (by decide) (fun h7 => ?_) (fun h => absurd (by decide) h)
      refine r_iload_n (pc := 52) dX8_beginOf_52 rfl rfl ?_
      refine r_iret (pc := 53) rfl rfl dX8_beginOf_53 ?_
      exact ⟨rfl, rfl⟩
    | succ n =>
      have hn9 : n + 1 < 2 ^ 31 := by have := bsc_le _ _ _ hb; simp at this hp; omega
      have hx : ar 2 (p + cs.length) = c := hc cs.length c (by simp)
      have hcs : ∀ (j : Nat) (x : Int32), cs.reverse[j]? = some x → ar 2 (p + j) = x := fun j x hx => hc j x (by rw [List.reverse_cons, List.getElem?_append_left (List.getElem?_eq_some_iff.mp hx).1]; exact hx)
      refine r_iload_n (pc := 6) dX8_beginOf_6 rfl rfl ?_
      refine r_if_le (pc := 7) (tgt := 52) dX8_beginOf_7 (by decide) (fun h => absurd h (nI_nle (by omega) hn9)) (fun h7 => ?_)
      rw [show p + (c :: cs).length = p + cs.length + 1 from rfl]
      refine r_iincK (pc := 10) (k9 := -1) dX8_beginOf_10 (by decide) rfl (Nat.le_of_ble_eq_true rfl) rfl ?_
      rw [pk_m1]
      refine r_iload_n (pc := 13) dX8_beginOf_13 rfl rfl ?_
      refine r_aload_n (pc := 14) dX8_beginOf_14 rfl rfl ?_
      refine mg_13 (pc := 15) hP rfl dX8_beginOf_15 ?_
      refine r_iload_n (pc := 18) dX8_beginOf_18 rfl rfl ?_
      refine mln_2 (pc := 19) (p + cs.length) hP ⟨rfl, by simp at hp; omega⟩ dX8_beginOf_19 ?_
      rw [hx]
      refine r_sipush (pc := 20) (v := 2000) dX8_beginOf_20 (by decide) ?_
      refine r_icmp_ge (pc := 23) (tgt := 30) dX8_beginOf_23 (by decide) (fun h23 => ?_) (fun h23 => ?_)
      · refine r_aload_n (pc := 30) dX8_beginOf_30 rfl rfl ?_
        refine mg_13 (pc := 31) hP rfl dX8_beginOf_31 ?_
        refine r_iload_n (pc := 34) dX8_beginOf_34 rfl rfl ?_
        refine mln_2 (pc := 35) (p + cs.length) hP ⟨rfl, by simp at hp; omega⟩ dX8_beginOf_35 ?_
        rw [hx]
        refine r_sipush (pc := 36) (v := 2033) dX8_beginOf_36 (by decide) ?_
        refine r_icmp_ne (pc := 39) (tgt := 46) dX8_beginOf_39 (by decide) (fun h39 => ?_) (fun h39 => ?_)
        · refine r_iconst (pc := 46) (v := 1) dX8_beginOf_46 (by decide) ?_
          refine r_iadd (pc := 47) dX8_beginOf_47 ?_
          refine r_istore_n (pc := 48) dX8_beginOf_48 rfl (Nat.le_of_ble_eq_true rfl) rfl ?_
          refine r_goto (pc := 49) (tgt := 6) dX8_beginOf_49 (by decide) ?_
          obtain ⟨j, rfl, hj⟩ := bsc_st hb
          rw [show p + cs.length + 1 - (j + 1) = p + cs.length - j by omega]
          rw [if_neg (Int32.not_lt.mpr h23), if_neg h39] at hj
          rw [nI_1]
          exact ih _ j hj hcs (by simp at hp; omega)
        · refine r_iconst (pc := 42) (v := 0) dX8_beginOf_42 (by decide) ?_
          refine r_goto (pc := 43) (tgt := 47) dX8_beginOf_43 (by decide) ?_
          refine r_iadd (pc := 47) dX8_beginOf_47 ?_
          refine r_istore_n (pc := 48) dX8_beginOf_48 rfl (Nat.le_of_ble_eq_true rfl) rfl ?_
          refine r_goto (pc := 49) (tgt := 6) dX8_beginOf_49 (by decide) ?_
          obtain ⟨j, rfl, hj⟩ := bsc_st hb
          rw [show p + cs.length + 1 - (j + 1) = p + cs.length - j by omega]
          rw [if_neg (Int32.not_lt.mpr h23), if_pos (h39)] at hj
          rw [Int32.add_zero]
          exact ih _ j hj hcs (by simp at hp; omega)
      · refine r_iconst (pc := 26) (v := -1) dX8_beginOf_26 (by decide) ?_
        refine r_goto (pc := 27) (tgt := 47) dX8_beginOf_27 (by decide) ?_
        refine r_iadd (pc := 47) dX8_beginOf_47 ?_
        refine r_istore_n (pc := 48) dX8_beginOf_48 rfl (Nat.le_of_ble_eq_true rfl) rfl ?_
        refine r_goto (pc := 49) (tgt := 6) dX8_beginOf_49 (by decide) ?_
        obtain ⟨j, rfl, hj⟩ := bsc_st hb
        rw [show p + cs.length + 1 - (j + 1) = p + cs.length - j by omega]
        rw [if_pos (Int32.not_le.mp h23)] at hj
        rw [pk_m1]
        exact ih _ j hj hcs (by simp at hp; omega)
set_option maxRecDepth 100000 in
set_option maxHeartbeats 4000000 in
theorem am_beginOf {G : aw_G} {P T : List va_E} {sc : Nat → Int32} {ar : Nat → Nat → Int32} (hP : P.length = 12) {y : List Int32} (hy : blk y) (p : Nat) (z : Int32) (hz : z + 1 = nI (p + y.length)) (hc : ∀ (j : Nat) (x : Int32), y[j]? = some x → ar 2 (p + j) = x) (hp : p + y.length ≤ 4400) : AM G fX8_beginOf [.ref 12, .int z] (mw P sc ar T) (qx (.inl (some (.int (nI (p))))) (mw P sc ar T)) := by
  refine AM_of (by decide) rfl rfl (Nat.le_of_ble_eq_true rfl) ?_
  show AW G fX8_beginOf 0 0 (mw P sc ar T) 0 [some (.ref 12), some (.int z), none, none] [] _
  refine r_iconst (pc := 0) (v := 1) dX8_beginOf_0 (by decide) ?_
  refine r_istore_n (pc := 1) dX8_beginOf_1 rfl (Nat.le_of_ble_eq_true rfl) rfl ?_
  refine r_iload_n (pc := 2) dX8_beginOf_2 rfl rfl ?_
  refine r_iconst (pc := 3) (v := 1) dX8_beginOf_3 (by decide) ?_
  refine r_iadd (pc := 4) dX8_beginOf_4 ?_
  refine r_istore_n (pc := 5) dX8_beginOf_5 rfl (Nat.le_of_ble_eq_true rfl) rfl ?_
  rw [show z + 1 = nI (p + y.reverse.length) by rw [hz, List.length_reverse]]
  have hb := bsc_blk hy [] 0
  rw [List.append_nil] at hb
  have h9 := bo_loop (G := G) (T := T) (sc := sc) hP p z y.reverse 1 y.length (by rw [hb]; simp [bsc]) (by rw [List.reverse_reverse]; exact hc) (by rw [List.length_reverse]; exact hp)
  rw [show p + y.reverse.length - y.length = p by rw [List.length_reverse]; omega] at h9
  exact h9

def iv (its : Nat) (i : Int32 ⊕ (Nat × List Int32)) : Int32 := match i with
  | .inl c => 10000 + c
  | .inr b => nI (40 * its + (b.1 + b.2.length - 1))
def ot (i : Int32 ⊕ (Nat × List Int32)) : List Int32 := match i with
  | .inl c => [c]
  | .inr b => plS b.2
def wt (i : Int32 ⊕ (Nat × List Int32)) : Nat := match i with
  | .inl _ => 1
  | .inr b => 4 * b.2.length
def wts : List (Int32 ⊕ (Nat × List Int32)) → Nat
  | [] => 0
  | i :: l => wt i + wts l
def ots : List (Int32 ⊕ (Nat × List Int32)) → List Int32
  | [] => []
  | i :: l => ot i ++ ots l
def iok (row : List Int32) (i : Int32 ⊕ (Nat × List Int32)) : Prop := match i with
  | .inl c => ∃ k : Nat, k < 300 ∧ c = nI k
  | .inr b => blk b.2 ∧ b.1 + b.2.length ≤ row.length ∧ ∀ (j : Nat) (x : Int32), b.2[j]? = some x → row[b.1 + j]? = some x
theorem blk_ne {l : List Int32} (h : blk l) : 0 < l.length := by
  cases l with
  | nil => cases h
  | cons a b => exact Nat.succ_pos _
theorem blk_cases {l : List Int32} (h : blk l) : (∃ c, c < 2000 ∧ l = [c]) ∨ (∃ b, blk b ∧ l = b ++ [2033]) ∨ ∃ x y c, blk x ∧ blk y ∧ ¬ c < 2000 ∧ ¬ c = 2033 ∧ l = x ++ y ++ [c] := by
  obtain ⟨a, b, rfl, ha, hb, hc⟩ := dp_last l.length l 0 (Nat.le_refl _) h
  have ha0 : a = [] := by
    cases a with
    | nil => rfl
    | cons x y => exact absurd ha (dp_zero _ _ (by simp))
  subst ha0
  exact hc
theorem wts_len {row : List Int32} : ∀ (l : List (Int32 ⊕ (Nat × List Int32))), (∀ i ∈ l, iok row i) → l.length ≤ wts l
  | [], _ => Nat.le_refl _
  | i :: l, h => by
    have h1 := wts_len l (fun j hj => h j (List.mem_cons_of_mem _ hj))
    have h2 : 1 ≤ wt i := by
      have := h i (List.mem_cons_self ..)
      cases i with
      | inl c => exact Nat.le_refl _
      | inr b => have := blk_ne this.1; show 1 ≤ 4 * b.2.length; omega
    show l.length + 1 ≤ wt i + wts l
    omega
theorem x10 (c : Int32) : 10000 + c - 10000 = c := by rw [Int32.add_comm, Int32.add_sub_cancel]
theorem x10b (c : Int32) : 10000 + c - 2000 = 10000 + (c - 2000) := by rw [Int32.sub_eq_add_neg, Int32.sub_eq_add_neg, Int32.add_assoc]
theorem x97 (c : Int32) : 97 + c - 1000 = 97 + c - 1000 := rfl
theorem stk4 {f : Nat → Int32} {l : List Int32} {n : Nat} (hl : l.length = n) (h : stk f l) {v1 v2 v3 v4 w1 w2 w3 w4 : Int32} (e1 : v1 = w1) (e2 : v2 = w2) (e3 : v3 = w3) (e4 : v4 = w4) : stk (upd (upd (upd (upd f n v1) (n + 1) v2) (n + 2) v3) (n + 3) v4) (w4 :: w3 :: w2 :: w1 :: l) := by
  subst hl e1 e2 e3 e4
  exact stk_push (l := v3 :: v2 :: v1 :: l) (stk_push (l := v2 :: v1 :: l) (stk_push (l := v1 :: l) (stk_push h)))
theorem stk1 {f : Nat → Int32} {l : List Int32} {n : Nat} (hl : l.length = n) (h : stk f l) {v1 w1 : Int32} (e1 : v1 = w1) : stk (upd f n v1) (w1 :: l) := by
  subst hl e1
  exact stk_push h
theorem iok_sub {row x y : List Int32} {e : Nat} {b : List Int32} (h : iok row (.inr (e, b))) (hx : blk y) (z : List Int32) (hb : b = x ++ y ++ z) : iok row (.inr (e + x.length, y)) := by
  subst hb
  refine ⟨hx, ?_, ?_⟩
  · have := h.2.1; simp at this ⊢; omega
  · intro j v hv
    rw [Nat.add_assoc]
    refine h.2.2 _ _ ?_
    rw [List.append_assoc, List.getElem?_append_right (Nat.le_add_right _ _), Nat.add_sub_cancel_left, List.getElem?_append_left (List.getElem?_eq_some_iff.mp hv).1]
    exact hv
set_option maxRecDepth 100000 in
set_option maxHeartbeats 4000000 in
theorem lp_loop {G : aw_G} {P T : List va_E} {sc0 : Nat → Int32} {ar0 : Nat → Nat → Int32} (hP : P.length = 12) {its : Nat} {row X : List Int32} (hcr : crow ar0 its row) (hok : okL row) (hX120 : X.length ≤ 120) : ∀ (m : Nat) (items : List (Int32 ⊕ (Nat × List Int32))) (L : List Int32) (sc : Nat → Int32) (ar : Nat → Nat → Int32), ag [24] [23, 25] sc0 ar0 sc ar → lP sc ar L → stk (ar 25) (items.map (iv its)) → (∀ i ∈ items, iok row i) → wts items ≤ m → wts items ≤ 190 → L ++ ots items = X → AW G fX8_layPlain 0 0 (mw P sc ar T) 26 [some (.ref 12), some (.int (nI its)), some (.int (nI (items.length))), none] [] (qm P T (.inl none) (fun sc2 ar2 => ag [24] [23, 25] sc0 ar0 sc2 ar2 ∧ lP sc2 ar2 X)) := by
  intro m
  induction m with
  | zero =>
    intro items L sc ar hag hL hst hio hm hm2 hX
    have := wts_len items hio
    have h0 : items = [] := List.length_eq_zero_iff.mp (by omega)
    subst h0
    refine r_iload_n (pc := 26) dX8_layPlain_26 rfl rfl ?_
    refine r_if_le (pc := 27) (tgt := 220) dX8_layPlain_27 (by decide) (fun h27 => ?_) (fun h => absurd (by decide) h)
    refine r_vret (pc := 220) rfl dX8_layPlain_220 ?_
    exact ⟨rfl, sc, ar, rfl, hag, by rw [← hX]; simpa [ots] using hL⟩
  | succ m ih =>
    intro items L sc ar hag hL hst hio hm hm2 hX
    have hit := hcr.1
    have hrl := hcr.2.1
    cases items with
    | nil =>
      refine r_iload_n (pc := 26) dX8_layPlain_26 rfl rfl ?_
      refine r_if_le (pc := 27) (tgt := 220) dX8_layPlain_27 (by decide) (fun h27 => ?_) (fun h => absurd (by decide) h)
      refine r_vret (pc := 220) rfl dX8_layPlain_220 ?_
      exact ⟨rfl, sc, ar, rfl, hag, by rw [← hX]; simpa [ots] using hL⟩
    | cons it rest =>
      have hLX : L.length + (ot it).length ≤ 120 := by
        have := congrArg List.length hX
        simp [ots] at this
        omega
      have hwl := wts_len rest (fun i hi => hio i (List.mem_cons_of_mem _ hi))
      rw [show (it :: rest).length = rest.length + 1 from rfl]
      have hbo := hio it (List.mem_cons_self ..)
      have hs1 : ar 25 rest.length = iv its it := by have := hst.1; rwa [List.length_map] at this
      cases it with
      | inl c =>
        have hm : 1 + wts rest ≤ m + 1 := hm
        have hm2 : 1 + wts rest ≤ 190 := hm2
        have hge : (10000 : Int32) ≤ 10000 + c := by
          obtain ⟨k, hk, rfl⟩ := hbo
          exact Int32.le_trans (nI_le (a := 10000) (b := 10000 + k) (by omega) (by omega)) (by rw [← nI_add]; exact Int32.le_refl _)
        have hLX : L.length + 1 ≤ 120 := hLX
        refine r_iload_n (pc := 26) dX8_layPlain_26 rfl rfl ?_
        refine r_if_le (pc := 27) (tgt := 220) dX8_layPlain_27 (by decide) (fun h => absurd h (nI_nle (Nat.succ_pos _) (by omega))) (fun h27 => ?_)
        refine r_iincK (pc := 30) (k9 := -1) dX8_layPlain_30 (by decide) rfl (Nat.le_of_ble_eq_true rfl) rfl ?_
        rw [pk_m1]
        refine r_aload_n (pc := 33) dX8_layPlain_33 rfl rfl ?_
        refine mg_59 (pc := 34) hP rfl dX8_layPlain_34 ?_
        refine r_iload_n (pc := 37) dX8_layPlain_37 rfl rfl ?_
        refine mln_25 (pc := 38) (rest.length) hP ⟨rfl, by omega⟩ dX8_layPlain_38 ?_
        rw [hs1, show iv its (.inl c) = 10000 + c from rfl]
        refine r_istore_n (pc := 39) dX8_layPlain_39 rfl (Nat.le_of_ble_eq_true rfl) rfl ?_
        refine r_iload_n (pc := 40) dX8_layPlain_40 rfl rfl ?_
        refine r_sipush (pc := 41) (v := 10000) dX8_layPlain_41 (by decide) ?_
        refine r_icmp_lt (pc := 44) (tgt := 59) dX8_layPlain_44 (by decide) (fun h => absurd h (Int32.not_lt.mpr hge)) (fun h44 => ?_)
        refine r_aload_n (pc := 47) dX8_layPlain_47 rfl rfl ?_
        refine r_iload_n (pc := 48) dX8_layPlain_48 rfl rfl ?_
        refine r_sipush (pc := 49) (v := 10000) dX8_layPlain_49 (by decide) ?_
        refine r_isub (pc := 52) dX8_layPlain_52 ?_
        refine s_X8_184 (pc := 53) (kc' := 0) (ks' := 0) rfl rfl (am_laysL hP hL (by omega) _) (mw_o hP) (Nat.le_of_ble_eq_true rfl) (Nat.le_of_ble_eq_true rfl) (Nat.le_of_ble_eq_true rfl) (Nat.le_of_ble_eq_true rfl) (by exact (Nat.le_of_ble_eq_true rfl)) rfl (List.forall_mem_cons.mpr ⟨rfl, (List.forall_mem_cons.mpr ⟨rfl, fun _ h => nomatch h⟩)⟩) rfl dX8_layPlain_53 aw_kmt (aw_kmv (fun sc2 ar2 hC => ?_))
        refine r_goto (pc := 56) (tgt := 217) dX8_layPlain_56 (by decide) ?_
        refine r_goto (pc := 217) (tgt := 26) dX8_layPlain_217 (by decide) ?_
        rw [x10] at hC
        refine AW_drop 3 rfl ?_
        refine ih rest (L ++ [c]) sc2 ar2 (ag_tr hag (ag_mono hC.1 (by simp) (by simp))) hC.2 (by rw [hC.1.2 25 (by decide)]; exact hst.2) (fun i hi => hio i (List.mem_cons_of_mem _ hi)) (by omega) (by omega) ?_
        rw [List.append_assoc]; exact hX
      | inr eb =>
        obtain ⟨e, b⟩ := eb
        have hm : 4 * b.length + wts rest ≤ m + 1 := hm
        have hm2 : 4 * b.length + wts rest ≤ 190 := hm2
        have hrb : ∀ (j : Nat) (x : Int32), b[j]? = some x → ar 2 (40 * its + (e + j)) = x := fun j x hx => by rw [hag.2 2 (by decide)]; exact hcr.2.2.2 _ _ (hbo.2.2 j x hx)
        have hel : e + b.length ≤ row.length := hbo.2.1
        have hLX : L.length + (plS b).length ≤ 120 := hLX
        rcases blk_cases hbo.1 with ⟨c, hc0, rfl⟩ | ⟨b, hb, rfl⟩ | ⟨x, y, c, hbx, hy, hc2, hc3, rfl⟩
        · obtain ⟨q, hq⟩ : ∃ q, q = 40 * its + e := ⟨_, rfl⟩
          have hcd : ar 2 q = c := by rw [hq]; exact hrb 0 c rfl
          have hiv : iv its (.inr (e, [c])) = nI q := by rw [hq]; rfl
          have hX : L ++ (plS [c] ++ ots rest) = X := hX
          rw [plS_one hc0] at hX
          simp at hel hm hm2
          by_cases hc1 : c < 1000
          · have hat : dgs c = atm c := by unfold atm; rw [if_pos hc1]
            refine r_iload_n (pc := 26) dX8_layPlain_26 rfl rfl ?_
            refine r_if_le (pc := 27) (tgt := 220) dX8_layPlain_27 (by decide) (fun h => absurd h (nI_nle (Nat.succ_pos _) (by omega))) (fun h27 => ?_)
            refine r_iincK (pc := 30) (k9 := -1) dX8_layPlain_30 (by decide) rfl (Nat.le_of_ble_eq_true rfl) rfl ?_
            rw [pk_m1]
            refine r_aload_n (pc := 33) dX8_layPlain_33 rfl rfl ?_
            refine mg_59 (pc := 34) hP rfl dX8_layPlain_34 ?_
            refine r_iload_n (pc := 37) dX8_layPlain_37 rfl rfl ?_
            refine mln_25 (pc := 38) (rest.length) hP ⟨rfl, by omega⟩ dX8_layPlain_38 ?_
            rw [hs1, hiv]
            refine r_istore_n (pc := 39) dX8_layPlain_39 rfl (Nat.le_of_ble_eq_true rfl) rfl ?_
            refine r_iload_n (pc := 40) dX8_layPlain_40 rfl rfl ?_
            refine r_sipush (pc := 41) (v := 10000) dX8_layPlain_41 (by decide) ?_
            refine r_icmp_lt (pc := 44) (tgt := 59) dX8_layPlain_44 (by decide) (fun h44 => ?_) (fun h => absurd (nI_lt (a := q) (b := 10000) (by omega) (by decide)) h)
            refine r_aload_n (pc := 59) dX8_layPlain_59 rfl rfl ?_
            refine mg_13 (pc := 60) hP rfl dX8_layPlain_60 ?_
            refine r_iload_n (pc := 63) dX8_layPlain_63 rfl rfl ?_
            refine mln_2 (pc := 64) (q) hP ⟨rfl, by omega⟩ dX8_layPlain_64 ?_
            rw [hcd]
            refine r_sipush (pc := 65) (v := 1000) dX8_layPlain_65 (by decide) ?_
            refine r_icmp_ge (pc := 68) (tgt := 84) dX8_layPlain_68 (by decide) (fun h => absurd hc1 (Int32.not_lt.mpr h)) (fun h68 => ?_)
            refine r_aload_n (pc := 71) dX8_layPlain_71 rfl rfl ?_
            refine r_aload_n (pc := 72) dX8_layPlain_72 rfl rfl ?_
            refine mg_13 (pc := 73) hP rfl dX8_layPlain_73 ?_
            refine r_iload_n (pc := 76) dX8_layPlain_76 rfl rfl ?_
            refine mln_2 (pc := 77) (q) hP ⟨rfl, by omega⟩ dX8_layPlain_77 ?_
            rw [hcd]
            refine s_X8_187 (pc := 78) (kc' := 0) (ks' := 0) rfl rfl (am_putNumber hP hL (by omega) _) (mw_o hP) (Nat.le_of_ble_eq_true rfl) (Nat.le_of_ble_eq_true rfl) (Nat.le_of_ble_eq_true rfl) (Nat.le_of_ble_eq_true rfl) (by exact (Nat.le_of_ble_eq_true rfl)) rfl (List.forall_mem_cons.mpr ⟨rfl, (List.forall_mem_cons.mpr ⟨rfl, fun _ h => nomatch h⟩)⟩) rfl dX8_layPlain_78 aw_kmt (aw_kmv (fun sc2 ar2 hC => ?_))
            refine r_goto (pc := 81) (tgt := 217) dX8_layPlain_81 (by decide) ?_
            refine r_goto (pc := 217) (tgt := 26) dX8_layPlain_217 (by decide) ?_
            rw [hat] at hC
            refine AW_drop 3 rfl ?_
            refine ih rest (L ++ atm c) sc2 ar2 (ag_tr hag (ag_mono hC.1 (by simp) (by simp))) hC.2 (by rw [hC.1.2 25 (by decide)]; exact hst.2) (fun i hi => hio i (List.mem_cons_of_mem _ hi)) (by omega) (by omega) ?_
            rw [List.append_assoc]; exact hX
          · have hat : [97 + c - 1000] = atm c := by unfold atm; rw [if_neg hc1]
            refine r_iload_n (pc := 26) dX8_layPlain_26 rfl rfl ?_
            refine r_if_le (pc := 27) (tgt := 220) dX8_layPlain_27 (by decide) (fun h => absurd h (nI_nle (Nat.succ_pos _) (by omega))) (fun h27 => ?_)
            refine r_iincK (pc := 30) (k9 := -1) dX8_layPlain_30 (by decide) rfl (Nat.le_of_ble_eq_true rfl) rfl ?_
            rw [pk_m1]
            refine r_aload_n (pc := 33) dX8_layPlain_33 rfl rfl ?_
            refine mg_59 (pc := 34) hP rfl dX8_layPlain_34 ?_
            refine r_iload_n (pc := 37) dX8_layPlain_37 rfl rfl ?_
            refine mln_25 (pc := 38) (rest.length) hP ⟨rfl, by omega⟩ dX8_layPlain_38 ?_
            rw [hs1, hiv]
            refine r_istore_n (pc := 39) dX8_layPlain_39 rfl (Nat.le_of_ble_eq_true rfl) rfl ?_
            refine r_iload_n (pc := 40) dX8_layPlain_40 rfl rfl ?_
            refine r_sipush (pc := 41) (v := 10000) dX8_layPlain_41 (by decide) ?_
            refine r_icmp_lt (pc := 44) (tgt := 59) dX8_layPlain_44 (by decide) (fun h44 => ?_) (fun h => absurd (nI_lt (a := q) (b := 10000) (by omega) (by decide)) h)
            refine r_aload_n (pc := 59) dX8_layPlain_59 rfl rfl ?_
            refine mg_13 (pc := 60) hP rfl dX8_layPlain_60 ?_
            refine r_iload_n (pc := 63) dX8_layPlain_63 rfl rfl ?_
            refine mln_2 (pc := 64) (q) hP ⟨rfl, by omega⟩ dX8_layPlain_64 ?_
            rw [hcd]
            refine r_sipush (pc := 65) (v := 1000) dX8_layPlain_65 (by decide) ?_
            refine r_icmp_ge (pc := 68) (tgt := 84) dX8_layPlain_68 (by decide) (fun h68 => ?_) (fun h => absurd (Int32.not_le.mp h) hc1)
            refine r_aload_n (pc := 84) dX8_layPlain_84 rfl rfl ?_
            refine mg_13 (pc := 85) hP rfl dX8_layPlain_85 ?_
            refine r_iload_n (pc := 88) dX8_layPlain_88 rfl rfl ?_
            refine mln_2 (pc := 89) (q) hP ⟨rfl, by omega⟩ dX8_layPlain_89 ?_
            rw [hcd]
            refine r_sipush (pc := 90) (v := 2000) dX8_layPlain_90 (by decide) ?_
            refine r_icmp_ge (pc := 93) (tgt := 116) dX8_layPlain_93 (by decide) (fun h => absurd hc0 (Int32.not_lt.mpr h)) (fun h93 => ?_)
            refine r_aload_n (pc := 96) dX8_layPlain_96 rfl rfl ?_
            refine r_bipush (pc := 97) (v := 97) dX8_layPlain_97 (by decide) ?_
            refine r_aload_n (pc := 99) dX8_layPlain_99 rfl rfl ?_
            refine mg_13 (pc := 100) hP rfl dX8_layPlain_100 ?_
            refine r_iload_n (pc := 103) dX8_layPlain_103 rfl rfl ?_
            refine mln_2 (pc := 104) (q) hP ⟨rfl, by omega⟩ dX8_layPlain_104 ?_
            rw [hcd]
            refine r_iadd (pc := 105) dX8_layPlain_105 ?_
            refine r_sipush (pc := 106) (v := 1000) dX8_layPlain_106 (by decide) ?_
            refine r_isub (pc := 109) dX8_layPlain_109 ?_
            refine s_X8_184 (pc := 110) (kc' := 0) (ks' := 0) rfl rfl (am_laysL hP hL (by omega) _) (mw_o hP) (Nat.le_of_ble_eq_true rfl) (Nat.le_of_ble_eq_true rfl) (Nat.le_of_ble_eq_true rfl) (Nat.le_of_ble_eq_true rfl) (by exact (Nat.le_of_ble_eq_true rfl)) rfl (List.forall_mem_cons.mpr ⟨rfl, (List.forall_mem_cons.mpr ⟨rfl, fun _ h => nomatch h⟩)⟩) rfl dX8_layPlain_110 aw_kmt (aw_kmv (fun sc2 ar2 hC => ?_))
            refine r_goto (pc := 113) (tgt := 217) dX8_layPlain_113 (by decide) ?_
            refine r_goto (pc := 217) (tgt := 26) dX8_layPlain_217 (by decide) ?_
            rw [hat] at hC
            refine AW_drop 3 rfl ?_
            refine ih rest (L ++ atm c) sc2 ar2 (ag_tr hag (ag_mono hC.1 (by simp) (by simp))) hC.2 (by rw [hC.1.2 25 (by decide)]; exact hst.2) (fun i hi => hio i (List.mem_cons_of_mem _ hi)) (by omega) (by omega) ?_
            rw [List.append_assoc]; exact hX
        · obtain ⟨q, hq⟩ : ∃ q, q = 40 * its + (e + b.length) := ⟨_, rfl⟩
          have hcd : ar 2 q = 2033 := by rw [hq]; exact hrb b.length 2033 (by simp)
          have hiv : iv its (.inr (e, b ++ [2033])) = nI q := by rw [hq]; show nI _ = nI _; simp
          have hX : L ++ (plS (b ++ [2033]) ++ ots rest) = X := hX
          rw [plS_bang hb] at hX
          have hbl := blk_ne hb
          rw [plS_bang hb] at hLX
          simp at hel hm hm2 hLX
          refine r_iload_n (pc := 26) dX8_layPlain_26 rfl rfl ?_
          refine r_if_le (pc := 27) (tgt := 220) dX8_layPlain_27 (by decide) (fun h => absurd h (nI_nle (Nat.succ_pos _) (by omega))) (fun h27 => ?_)
          refine r_iincK (pc := 30) (k9 := -1) dX8_layPlain_30 (by decide) rfl (Nat.le_of_ble_eq_true rfl) rfl ?_
          rw [pk_m1]
          refine r_aload_n (pc := 33) dX8_layPlain_33 rfl rfl ?_
          refine mg_59 (pc := 34) hP rfl dX8_layPlain_34 ?_
          refine r_iload_n (pc := 37) dX8_layPlain_37 rfl rfl ?_
          refine mln_25 (pc := 38) (rest.length) hP ⟨rfl, by omega⟩ dX8_layPlain_38 ?_
          rw [hs1, hiv]
          refine r_istore_n (pc := 39) dX8_layPlain_39 rfl (Nat.le_of_ble_eq_true rfl) rfl ?_
          refine r_iload_n (pc := 40) dX8_layPlain_40 rfl rfl ?_
          refine r_sipush (pc := 41) (v := 10000) dX8_layPlain_41 (by decide) ?_
          refine r_icmp_lt (pc := 44) (tgt := 59) dX8_layPlain_44 (by decide) (fun h44 => ?_) (fun h => absurd (nI_lt (a := q) (b := 10000) (by omega) (by decide)) h)
          refine r_aload_n (pc := 59) dX8_layPlain_59 rfl rfl ?_
          refine mg_13 (pc := 60) hP rfl dX8_layPlain_60 ?_
          refine r_iload_n (pc := 63) dX8_layPlain_63 rfl rfl ?_
          refine mln_2 (pc := 64) (q) hP ⟨rfl, by omega⟩ dX8_layPlain_64 ?_
          rw [hcd]
          refine r_sipush (pc := 65) (v := 1000) dX8_layPlain_65 (by decide) ?_
          refine r_icmp_ge (pc := 68) (tgt := 84) dX8_layPlain_68 (by decide) (fun h68 => ?_) (fun h => absurd h (by decide))
          refine r_aload_n (pc := 84) dX8_layPlain_84 rfl rfl ?_
          refine mg_13 (pc := 85) hP rfl dX8_layPlain_85 ?_
          refine r_iload_n (pc := 88) dX8_layPlain_88 rfl rfl ?_
          refine mln_2 (pc := 89) (q) hP ⟨rfl, by omega⟩ dX8_layPlain_89 ?_
          rw [hcd]
          refine r_sipush (pc := 90) (v := 2000) dX8_layPlain_90 (by decide) ?_
          refine r_icmp_ge (pc := 93) (tgt := 116) dX8_layPlain_93 (by decide) (fun h93 => ?_) (fun h => absurd h (by decide))
          refine r_aload_n (pc := 116) dX8_layPlain_116 rfl rfl ?_
          refine mg_13 (pc := 117) hP rfl dX8_layPlain_117 ?_
          refine r_iload_n (pc := 120) dX8_layPlain_120 rfl rfl ?_
          refine mln_2 (pc := 121) (q) hP ⟨rfl, by omega⟩ dX8_layPlain_121 ?_
          rw [hcd]
          refine r_sipush (pc := 122) (v := 2033) dX8_layPlain_122 (by decide) ?_
          refine r_icmp_ne (pc := 125) (tgt := 149) dX8_layPlain_125 (by decide) (fun h => absurd rfl h) (fun h125 => ?_)
          refine r_aload_n (pc := 128) dX8_layPlain_128 rfl rfl ?_
          refine r_bipush (pc := 129) (v := 33) dX8_layPlain_129 (by decide) ?_
          refine s_X8_184 (pc := 131) (kc' := 0) (ks' := 0) rfl rfl (am_laysL hP hL (by omega) _) (mw_o hP) (Nat.le_of_ble_eq_true rfl) (Nat.le_of_ble_eq_true rfl) (Nat.le_of_ble_eq_true rfl) (Nat.le_of_ble_eq_true rfl) (by exact (Nat.le_of_ble_eq_true rfl)) rfl (List.forall_mem_cons.mpr ⟨rfl, (List.forall_mem_cons.mpr ⟨rfl, fun _ h => nomatch h⟩)⟩) rfl dX8_layPlain_131 aw_kmt (aw_kmv (fun sc2 ar2 hC => ?_))
          refine r_aload_n (pc := 134) dX8_layPlain_134 rfl rfl ?_
          refine mg_59 (pc := 135) hP rfl dX8_layPlain_135 ?_
          refine r_iload_n (pc := 138) dX8_layPlain_138 rfl rfl ?_
          refine r_iload_n (pc := 139) dX8_layPlain_139 rfl rfl ?_
          refine r_iconst (pc := 140) (v := 1) dX8_layPlain_140 (by decide) ?_
          refine r_isub (pc := 141) dX8_layPlain_141 ?_
          refine msn_25 (pc := 142) (rest.length) hP ⟨rfl, by omega⟩ dX8_layPlain_142 ?_
          refine r_iincK (pc := 143) (k9 := 1) dX8_layPlain_143 (by decide) rfl (Nat.le_of_ble_eq_true rfl) rfl ?_
          refine r_goto (pc := 146) (tgt := 217) dX8_layPlain_146 (by decide) ?_
          refine r_goto (pc := 217) (tgt := 26) dX8_layPlain_217 (by decide) ?_
          refine AW_drop 3 rfl ?_
          rw [nI_1]
          refine ih (.inr (e, b) :: rest) (L ++ [33]) sc2 _ (ag_a (ag_tr hag (ag_mono hC.1 (by simp) (by simp))) 25 _ (by decide)) ⟨hC.2.1, by rw [va_up_ne _ _ (by decide)]; exact hC.2.2.1, hC.2.2.2⟩ ?_ ?_ ?_ ?_ ?_
          · rw [va_up_self, hC.1.2 25 (by decide)]
            exact stk1 (by rw [List.length_map]) hst.2 ((pk_sub (b := 1) (by omega)).trans (congrArg nI (by show q - 1 = 40 * its + (e + b.length - 1); omega)))
          · intro i hi
            rcases List.mem_cons.mp hi with rfl | hi
            · have := iok_sub (x := []) hbo hb [2033] rfl
              simpa using this
            · exact hio i (List.mem_cons_of_mem _ hi)
          · show 4 * b.length + wts rest ≤ m
            omega
          · show 4 * b.length + wts rest ≤ 190
            omega
          · show L ++ [33] ++ (plS b ++ ots rest) = X
            rw [← hX]; simp
        · obtain ⟨q, hq⟩ : ∃ q, q = 40 * its + (e + (x.length + y.length)) := ⟨_, rfl⟩
          have hcd : ar 2 q = c := by rw [hq]; exact hrb (x.length + y.length) c (by rw [show x.length + y.length = (x ++ y).length by simp]; simp)
          have hiv : iv its (.inr (e, x ++ y ++ [c])) = nI q := by rw [hq]; show nI _ = nI _; congr 1; simp; omega
          have hX : L ++ (plS (x ++ y ++ [c]) ++ ots rest) = X := hX
          rw [plS_bin hbx hy hc2 hc3] at hX hLX
          have hxl := blk_ne hbx
          have hyl := blk_ne hy
          have hsg : iok row (.inl (c - 2000)) := by
            have hmem : c ∈ row := List.mem_of_getElem? (hbo.2.2 (x.length + y.length) c (by rw [show x.length + y.length = (x ++ y).length by simp]; simp))
            obtain ⟨k, hk, rfl⟩ := nI_of2 (n := 2200) (M := 2200) rfl (Int32.not_lt.mpr (hok c hmem).1.1) (hok c hmem).1.2
            have h2k : 2000 ≤ k := Nat.le_of_not_lt (fun z => hc2 (nI_lt (b := 2000) z (by decide)))
            exact ⟨k - 2000, by omega, pk_sub (b := 2000) h2k⟩
          have hz : nI q - 1 + 1 = nI (40 * its + (e + x.length) + y.length) := by rw [Int32.sub_add_cancel, hq]; congr 1; omega
          have hyc : ∀ (j : Nat) (x9 : Int32), y[j]? = some x9 → ar 2 (40 * its + (e + x.length) + j) = x9 := fun j x9 hx9 => by
            rw [hag.2 2 (by decide), Nat.add_assoc]
            exact hcr.2.2.2 _ _ ((iok_sub hbo hy [c] rfl).2.2 j x9 hx9)
          simp at hel hm hm2 hLX
          refine r_iload_n (pc := 26) dX8_layPlain_26 rfl rfl ?_
          refine r_if_le (pc := 27) (tgt := 220) dX8_layPlain_27 (by decide) (fun h => absurd h (nI_nle (Nat.succ_pos _) (by omega))) (fun h27 => ?_)
          refine r_iincK (pc := 30) (k9 := -1) dX8_layPlain_30 (by decide) rfl (Nat.le_of_ble_eq_true rfl) rfl ?_
          rw [pk_m1]
          refine r_aload_n (pc := 33) dX8_layPlain_33 rfl rfl ?_
          refine mg_59 (pc := 34) hP rfl dX8_layPlain_34 ?_
          refine r_iload_n (pc := 37) dX8_layPlain_37 rfl rfl ?_
          refine mln_25 (pc := 38) (rest.length) hP ⟨rfl, by omega⟩ dX8_layPlain_38 ?_
          rw [hs1, hiv]
          refine r_istore_n (pc := 39) dX8_layPlain_39 rfl (Nat.le_of_ble_eq_true rfl) rfl ?_
          refine r_iload_n (pc := 40) dX8_layPlain_40 rfl rfl ?_
          refine r_sipush (pc := 41) (v := 10000) dX8_layPlain_41 (by decide) ?_
          refine r_icmp_lt (pc := 44) (tgt := 59) dX8_layPlain_44 (by decide) (fun h44 => ?_) (fun h => absurd (nI_lt (a := q) (b := 10000) (by omega) (by decide)) h)
          refine r_aload_n (pc := 59) dX8_layPlain_59 rfl rfl ?_
          refine mg_13 (pc := 60) hP rfl dX8_layPlain_60 ?_
          refine r_iload_n (pc := 63) dX8_layPlain_63 rfl rfl ?_
          refine mln_2 (pc := 64) (q) hP ⟨rfl, by omega⟩ dX8_layPlain_64 ?_
          rw [hcd]
          refine r_sipush (pc := 65) (v := 1000) dX8_layPlain_65 (by decide) ?_
          refine r_icmp_ge (pc := 68) (tgt := 84) dX8_layPlain_68 (by decide) (fun h68 => ?_) (fun h => absurd (Int32.lt_trans (Int32.not_le.mp h) (by decide)) hc2)
          refine r_aload_n (pc := 84) dX8_layPlain_84 rfl rfl ?_
          refine mg_13 (pc := 85) hP rfl dX8_layPlain_85 ?_
          refine r_iload_n (pc := 88) dX8_layPlain_88 rfl rfl ?_
          refine mln_2 (pc := 89) (q) hP ⟨rfl, by omega⟩ dX8_layPlain_89 ?_
          rw [hcd]
          refine r_sipush (pc := 90) (v := 2000) dX8_layPlain_90 (by decide) ?_
          refine r_icmp_ge (pc := 93) (tgt := 116) dX8_layPlain_93 (by decide) (fun h93 => ?_) (fun h => absurd (Int32.not_le.mp h) hc2)
          refine r_aload_n (pc := 116) dX8_layPlain_116 rfl rfl ?_
          refine mg_13 (pc := 117) hP rfl dX8_layPlain_117 ?_
          refine r_iload_n (pc := 120) dX8_layPlain_120 rfl rfl ?_
          refine mln_2 (pc := 121) (q) hP ⟨rfl, by omega⟩ dX8_layPlain_121 ?_
          rw [hcd]
          refine r_sipush (pc := 122) (v := 2033) dX8_layPlain_122 (by decide) ?_
          refine r_icmp_ne (pc := 125) (tgt := 149) dX8_layPlain_125 (by decide) (fun h125 => ?_) (fun h => absurd h hc3)
          refine r_aload_n (pc := 149) dX8_layPlain_149 rfl rfl ?_
          refine r_bipush (pc := 150) (v := 40) dX8_layPlain_150 (by decide) ?_
          refine s_X8_184 (pc := 152) (kc' := 0) (ks' := 0) rfl rfl (am_laysL hP hL (by omega) _) (mw_o hP) (Nat.le_of_ble_eq_true rfl) (Nat.le_of_ble_eq_true rfl) (Nat.le_of_ble_eq_true rfl) (Nat.le_of_ble_eq_true rfl) (by exact (Nat.le_of_ble_eq_true rfl)) rfl (List.forall_mem_cons.mpr ⟨rfl, (List.forall_mem_cons.mpr ⟨rfl, fun _ h => nomatch h⟩)⟩) rfl dX8_layPlain_152 aw_kmt (aw_kmv (fun sc2 ar2 hC => ?_))
          refine r_aload_n (pc := 155) dX8_layPlain_155 rfl rfl ?_
          refine mg_59 (pc := 156) hP rfl dX8_layPlain_156 ?_
          refine r_iload_n (pc := 159) dX8_layPlain_159 rfl rfl ?_
          refine r_sipush (pc := 160) (v := 10041) dX8_layPlain_160 (by decide) ?_
          refine msn_25 (pc := 163) (rest.length) hP ⟨rfl, by omega⟩ dX8_layPlain_163 ?_
          refine r_aload_n (pc := 164) dX8_layPlain_164 rfl rfl ?_
          refine mg_59 (pc := 165) hP rfl dX8_layPlain_165 ?_
          refine r_iload_n (pc := 168) dX8_layPlain_168 rfl rfl ?_
          refine r_iconst (pc := 169) (v := 1) dX8_layPlain_169 (by decide) ?_
          refine r_iadd (pc := 170) dX8_layPlain_170 ?_
          refine r_iload_n (pc := 171) dX8_layPlain_171 rfl rfl ?_
          refine r_iconst (pc := 172) (v := 1) dX8_layPlain_172 (by decide) ?_
          refine r_isub (pc := 173) dX8_layPlain_173 ?_
          refine msn_25 (pc := 174) (rest.length + 1) hP ⟨nI_1 _, by omega⟩ dX8_layPlain_174 ?_
          refine r_aload_n (pc := 175) dX8_layPlain_175 rfl rfl ?_
          refine mg_59 (pc := 176) hP rfl dX8_layPlain_176 ?_
          refine r_iload_n (pc := 179) dX8_layPlain_179 rfl rfl ?_
          refine r_iconst (pc := 180) (v := 2) dX8_layPlain_180 (by decide) ?_
          refine r_iadd (pc := 181) dX8_layPlain_181 ?_
          refine r_sipush (pc := 182) (v := 10000) dX8_layPlain_182 (by decide) ?_
          refine r_aload_n (pc := 185) dX8_layPlain_185 rfl rfl ?_
          refine mg_13 (pc := 186) hP rfl dX8_layPlain_186 ?_
          refine r_iload_n (pc := 189) dX8_layPlain_189 rfl rfl ?_
          refine mln_2 (pc := 190) (q) hP ⟨rfl, by omega⟩ dX8_layPlain_190 ?_
          refine r_iadd (pc := 191) dX8_layPlain_191 ?_
          refine r_sipush (pc := 192) (v := 2000) dX8_layPlain_192 (by decide) ?_
          refine r_isub (pc := 195) dX8_layPlain_195 ?_
          refine msn_25 (pc := 196) (rest.length + 2) hP ⟨nI_add _ 2, by omega⟩ dX8_layPlain_196 ?_
          refine r_aload_n (pc := 197) dX8_layPlain_197 rfl rfl ?_
          refine mg_59 (pc := 198) hP rfl dX8_layPlain_198 ?_
          refine r_iload_n (pc := 201) dX8_layPlain_201 rfl rfl ?_
          refine r_iconst (pc := 202) (v := 3) dX8_layPlain_202 (by decide) ?_
          refine r_iadd (pc := 203) dX8_layPlain_203 ?_
          refine r_aload_n (pc := 204) dX8_layPlain_204 rfl rfl ?_
          refine r_iload_n (pc := 205) dX8_layPlain_205 rfl rfl ?_
          refine r_iconst (pc := 206) (v := 1) dX8_layPlain_206 (by decide) ?_
          refine r_isub (pc := 207) dX8_layPlain_207 ?_
          refine s_X8_190 (pc := 208) (kc' := 0) (ks' := 0) rfl rfl (am_beginOf hP hy (40 * its + (e + x.length)) _ hz (fun j x9 hx9 => (congrFun (hC.1.2 2 (by decide)) _).trans (hyc j x9 hx9)) (by omega)) (mw_o hP) (Nat.le_of_ble_eq_true rfl) (Nat.le_of_ble_eq_true rfl) (Nat.le_of_ble_eq_true rfl) (Nat.le_of_ble_eq_true rfl) (by exact (Nat.le_of_ble_eq_true rfl)) rfl (List.forall_mem_cons.mpr ⟨rfl, (List.forall_mem_cons.mpr ⟨rfl, fun _ h => nomatch h⟩)⟩) rfl dX8_layPlain_208 aw_kt (aw_kq ?_)
          refine r_iconst (pc := 211) (v := 1) dX8_layPlain_211 (by decide) ?_
          refine r_isub (pc := 212) dX8_layPlain_212 ?_
          refine msn_25 (pc := 213) (rest.length + 3) hP ⟨nI_add _ 3, by omega⟩ dX8_layPlain_213 ?_
          refine r_iincK (pc := 214) (k9 := 4) dX8_layPlain_214 (by decide) rfl (Nat.le_of_ble_eq_true rfl) rfl ?_
          refine r_goto (pc := 217) (tgt := 26) dX8_layPlain_217 (by decide) ?_
          refine AW_drop 3 rfl ?_
          rw [show nI rest.length + 4 = nI (rest.length + 4) from nI_add _ 4]
          refine ih (.inr (e, x) :: .inl (c - 2000) :: .inr (e + x.length, y) :: .inl 41 :: rest) (L ++ [40]) sc2 _ (ag_a (ag_a (ag_a (ag_a (ag_tr hag (ag_mono hC.1 (by simp) (by simp))) 25 _ (by decide)) 25 _ (by decide)) 25 _ (by decide)) 25 _ (by decide)) ⟨hC.2.1, hC.2.2.1, hC.2.2.2⟩ ?_ ?_ ?_ ?_ ?_
          · simp only [va_up_self, hC.1.2 25 (show 25 ∉ [23] by decide)]
            refine stk4 (by rw [List.length_map]) hst.2 (show (10041 : Int32) = 10000 + 41 by decide) ((pk_sub (b := 1) (by omega)).trans (congrArg nI (by simp; omega))) ?_ ((pk_sub (b := 1) (by omega)).trans (congrArg nI (by simp; omega)))
            rw [show iv its (.inl (c - 2000)) = 10000 + (c - 2000) from rfl, ← x10b]
            show 10000 + ar2 2 q - 2000 = 10000 + c - 2000
            rw [hC.1.2 2 (by decide), hcd]
          · intro i hi
            rcases List.mem_cons.mp hi with rfl | hi
            · have := iok_sub (x := []) (y := x) hbo hbx (y ++ [c]) (by simp)
              simpa using this
            rcases List.mem_cons.mp hi with rfl | hi
            · exact hsg
            rcases List.mem_cons.mp hi with rfl | hi
            · exact iok_sub hbo hy [c] rfl
            rcases List.mem_cons.mp hi with rfl | hi
            · exact ⟨41, by decide, rfl⟩
            · exact hio i (List.mem_cons_of_mem _ hi)
          · show 4 * x.length + (1 + (4 * y.length + (1 + wts rest))) ≤ m
            omega
          · show 4 * x.length + (1 + (4 * y.length + (1 + wts rest))) ≤ 190
            omega
          · show L ++ [40] ++ (plS x ++ ([c - 2000] ++ (plS y ++ ([41] ++ ots rest)))) = X
            rw [← hX]; simp
set_option maxRecDepth 100000 in
set_option maxHeartbeats 4000000 in
theorem am_layPlain {G : aw_G} {P T : List va_E} {sc : Nat → Int32} {ar : Nat → Nat → Int32} (hP : P.length = 12) {its : Nat} {row : List Int32} (hcr : crow ar its row) (hok : okL row) (hb : blk row) : AM G fX8_layPlain [.ref 12, .int (nI its)] (mw P sc ar T) (qm P T (.inl none) (fun sc2 ar2 => ag [24] [23, 25] sc ar sc2 ar2 ∧ lP sc2 ar2 (plS row))) := by
  refine AM_of (by decide) rfl rfl (Nat.le_of_ble_eq_true rfl) ?_
  show AW G fX8_layPlain 0 0 (mw P sc ar T) 0 [some (.ref 12), some (.int (nI its)), none, none] [] _
  refine r_aload_n (pc := 0) dX8_layPlain_0 rfl rfl ?_
  refine r_iconst (pc := 1) (v := 0) dX8_layPlain_1 (by decide) ?_
  refine mp_181 (pc := 2) hP rfl dX8_layPlain_2 ?_
  refine r_iconst (pc := 5) (v := 1) dX8_layPlain_5 (by decide) ?_
  refine r_istore_n (pc := 6) dX8_layPlain_6 rfl (Nat.le_of_ble_eq_true rfl) rfl ?_
  refine r_aload_n (pc := 7) dX8_layPlain_7 rfl rfl ?_
  refine mg_59 (pc := 8) hP rfl dX8_layPlain_8 ?_
  refine r_iconst (pc := 11) (v := 0) dX8_layPlain_11 (by decide) ?_
  refine r_bipush (pc := 12) (v := 40) dX8_layPlain_12 (by decide) ?_
  refine r_iload_n (pc := 14) dX8_layPlain_14 rfl rfl ?_
  refine r_imul (pc := 15) dX8_layPlain_15 ?_
  refine r_aload_n (pc := 16) dX8_layPlain_16 rfl rfl ?_
  refine mg_16 (pc := 17) hP rfl dX8_layPlain_17 ?_
  refine r_iload_n (pc := 20) dX8_layPlain_20 rfl rfl ?_
  refine mln_3 (pc := 21) (its) hP ⟨rfl, hcr.1⟩ dX8_layPlain_21 ?_
  refine r_iadd (pc := 22) dX8_layPlain_22 ?_
  refine r_iconst (pc := 23) (v := 1) dX8_layPlain_23 (by decide) ?_
  refine r_isub (pc := 24) dX8_layPlain_24 ?_
  refine msn_25 (pc := 25) (0) hP ⟨rfl, by decide⟩ dX8_layPlain_25 ?_
  refine AW_post ?_ (lp_loop (its := its) (row := row) (X := plS row) (sc0 := upd sc 24 0) hP hcr hok (by have := plS_len hb; have := hcr.2.1; omega) 160 [.inr (0, row)] [] _ _ (ag_a ag_rf 25 _ (by decide)) ⟨upd_s _ _ _, fun i x h => (by cases h), by decide⟩ ?_ ?_ ?_ ?_ ?_)
  · rintro r w' ⟨h1, sc2, ar2, h2, h3, h4⟩
    exact ⟨h1, sc2, ar2, h2, ag_tr (ag_s ag_rf 24 _ (by decide)) h3, h4⟩
  · rw [va_up_self]
    refine stk1 (l := []) rfl trivial ?_
    show 40 * nI its + ar 3 its - 1 = nI (40 * its + (0 + row.length - 1))
    have := blk_ne hb
    rw [hcr.2.2.1, n40, nI_add]
    exact (pk_sub (b := 1) (by omega)).trans (congrArg nI (by omega))
  · intro i hi
    rw [List.mem_singleton.mp hi]
    exact ⟨hb, by simp, fun j x hx => by rw [Nat.zero_add]; exact hx⟩
  · show 4 * row.length + 0 ≤ 160
    have := hcr.2.1
    omega
  · show 4 * row.length + 0 ≤ 190
    have := hcr.2.1
    omega
  · show [] ++ (plS row ++ []) = plS row
    simp

end M11
