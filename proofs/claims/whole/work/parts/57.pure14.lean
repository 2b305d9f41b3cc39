/-! ===== plain words: rows with one plain text are one row ===== -/
def kd (c : Int32) : Nat := if isDig c = true then 0 else if c = 33 then 2 else if c = 40 then 3 else 1
theorem kd_let {d : Nat} (h : d < 6) : kd (nI (97 + d)) = 1 := by
  unfold kd
  rw [if_neg, if_neg, if_neg]
  · intro z; have := (nI_eq (b := 40) (by omega) (by decide)).mp z; omega
  · intro z; have := (nI_eq (b := 33) (by omega) (by decide)).mp z; omega
  · intro z
    have z := of_decide_eq_true z
    have := (nI_leI (b := 57) (by omega) (by decide)).mp z.2
    omega
theorem kd_of {l1 l2 r1 r2 : List Int32} {c1 c2 : Int32} (h : c1 :: l1 ++ r1 = c2 :: l2 ++ r2) : kd c1 = kd c2 := by
  injection h with h1 h2
  rw [h1]
theorem plS_inj : ∀ (n : Nat) (a : List Int32), a.length ≤ n → blk a → okL a → sgL a → ∀ (b r1 r2 : List Int32), blk b → okL b → sgL b → ndg r1 → ndg r2 → plS a ++ r1 = plS b ++ r2 → a = b ∧ r1 = r2 := by
  intro n
  induction n with
  | zero =>
    intro a hl ha
    have : a = [] := List.length_eq_zero_iff.mp (by omega)
    rw [this] at ha
    cases ha
  | succ n ih =>
    intro a hl ha hoa hsa b r1 r2 hb hob hsb hr1 hr2 he
    rcases blk_cases ha with ⟨c, hc, rfl⟩ | ⟨a1, ha1, rfl⟩ | ⟨x, y, c, hx, hy, c1, c2, rfl⟩
    · rcases one_cases hoa hc with ⟨Q, hQ, rfl, e1⟩ | ⟨d, hd, rfl, e1⟩
      · obtain ⟨c0, t0, z0, k0⟩ := dgs_cons hQ
        have kc : kd c0 = 0 := if_pos k0
        rcases blk_cases hb with ⟨c', hc', rfl⟩ | ⟨b1, hb1, rfl⟩ | ⟨x', y', c', hx', hy', c1', c2', rfl⟩
        · rcases one_cases hob hc' with ⟨Q', hQ', rfl, e2⟩ | ⟨d', hd', rfl, e2⟩
          · rw [e1, e2] at he
            obtain ⟨g1, g2⟩ := dig_split _ _ _ _ (dgs_dig hQ) (dgs_dig hQ') hr1 hr2 he
            rw [dgs_inj hQ hQ' g1]
            exact ⟨rfl, g2⟩
          · rw [e1, z0, e2] at he
            have := kd_of he
            rw [kc, kd_let hd'] at this
            cases this
        · rw [e1, z0, plS_bang hb1] at he
          have := kd_of he
          rw [kc] at this
          exact absurd this (by decide)
        · rw [e1, z0, plS_bin hx' hy' c1' c2'] at he
          have := kd_of he
          rw [kc] at this
          exact absurd this (by decide)
      · rcases blk_cases hb with ⟨c', hc', rfl⟩ | ⟨b1, hb1, rfl⟩ | ⟨x', y', c', hx', hy', c1', c2', rfl⟩
        · rcases one_cases hob hc' with ⟨Q', hQ', rfl, e2⟩ | ⟨d', hd', rfl, e2⟩
          · obtain ⟨c0, t0, z0, k0⟩ := dgs_cons hQ'
            rw [e1, e2, z0] at he
            have := kd_of he
            rw [kd_let hd, show kd c0 = 0 from if_pos k0] at this
            cases this
          · rw [e1, e2] at he
            injection he with h1 h2
            have := (nI_eq (by omega) (by omega)).mp h1
            have hdd : d = d' := by omega
            rw [hdd]
            exact ⟨rfl, h2⟩
        · rw [e1, plS_bang hb1] at he
          have := kd_of he
          rw [kd_let hd] at this
          exact absurd this (by decide)
        · rw [e1, plS_bin hx' hy' c1' c2'] at he
          have := kd_of he
          rw [kd_let hd] at this
          exact absurd this (by decide)
    · rcases blk_cases hb with ⟨c', hc', rfl⟩ | ⟨b1, hb1, rfl⟩ | ⟨x', y', c', hx', hy', c1', c2', rfl⟩
      · rcases one_cases hob hc' with ⟨Q', hQ', rfl, e2⟩ | ⟨d', hd', rfl, e2⟩
        · obtain ⟨c0, t0, z0, k0⟩ := dgs_cons hQ'
          rw [plS_bang ha1, e2, z0] at he
          have := kd_of he
          rw [show kd c0 = 0 from if_pos k0] at this
          exact absurd this (by decide)
        · rw [plS_bang ha1, e2] at he
          have := kd_of he
          rw [kd_let hd'] at this
          exact absurd this (by decide)
      · rw [plS_bang ha1, plS_bang hb1] at he
        injection he with h1 h2
        obtain ⟨g1, g2⟩ := ih a1 (by simp at hl; omega) ha1 (okL_l hoa) (sgL_l hsa) b1 r1 r2 hb1 (okL_l hob) (sgL_l hsb) hr1 hr2 h2
        rw [g1]
        exact ⟨rfl, g2⟩
      · rw [plS_bang ha1, plS_bin hx' hy' c1' c2'] at he
        exact absurd (kd_of he) (by decide)
    · rcases blk_cases hb with ⟨c', hc', rfl⟩ | ⟨b1, hb1, rfl⟩ | ⟨x', y', c', hx', hy', c1', c2', rfl⟩
      · rcases one_cases hob hc' with ⟨Q', hQ', rfl, e2⟩ | ⟨d', hd', rfl, e2⟩
        · obtain ⟨c0, t0, z0, k0⟩ := dgs_cons hQ'
          rw [plS_bin hx hy c1 c2, e2, z0] at he
          have := kd_of he
          rw [show kd c0 = 0 from if_pos k0] at this
          exact absurd this (by decide)
        · rw [plS_bin hx hy c1 c2, e2] at he
          have := kd_of he
          rw [kd_let hd'] at this
          exact absurd this (by decide)
      · rw [plS_bin hx hy c1 c2, plS_bang hb1] at he
        exact absurd (kd_of he) (by decide)
      · rw [plS_bin hx hy c1 c2, plS_bin hx' hy' c1' c2'] at he
        have hk : 0 < rkN (c - 2000) := (hsa c (by simp) c1).resolve_left c2
        have hk' : 0 < rkN (c' - 2000) := (hsb c' (by simp) c1').resolve_left c2'
        have he2 : plS x ++ ((c - 2000) :: (plS y ++ (41 :: r1))) = plS x' ++ ((c' - 2000) :: (plS y' ++ (41 :: r2))) := by
          injection he with h1 h2
          simpa using h2
        have nd : ∀ {s : Int32} {l : List Int32}, isDig s = false → ndg (s :: l) := fun h z t e => by cases e; exact h
        obtain ⟨g1, g2⟩ := ih x (by simp at hl; omega) hx (okL_l (okL_l hoa)) (sgL_l (sgL_l hsa)) x' _ _ hx' (okL_l (okL_l hob)) (sgL_l (sgL_l hsb)) (nd (rkN_cls hk).1) (nd (rkN_cls hk').1) he2
        injection g2 with g3 g4
        obtain ⟨g5, g6⟩ := ih y (by simp at hl; omega) hy (okL_r (okL_l hoa)) (sgL_r (sgL_l hsa)) y' _ _ hy' (okL_r (okL_l hob)) (sgL_r (sgL_l hsb)) (nd (by decide)) (nd (by decide)) g4
        injection g6 with _ g7
        have hcc : c = c' := by
          have := congrArg (fun z : Int32 => z + 2000) g3
          simpa [Int32.sub_add_cancel] using this
        rw [g1, g5, hcc]
        exact ⟨rfl, g7⟩
theorem plS_eq {a b : List Int32} (ha : wfr a) (hsa : sgL a) (hb : wfr b) (hsb : sgL b) : plS a = plS b ↔ a = b := by
  refine ⟨fun h => ?_, fun h => by rw [h]⟩
  exact (plS_inj a.length a (Nat.le_refl _) ha.1 ha.2.1 hsa b [] [] hb.1 hb.2.1 hsb (fun c t e => by cases e) (fun c t e => by cases e) (by rw [h])).1
