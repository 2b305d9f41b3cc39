/-! ===== the class: a formula is read ===== -/
section S11
/-- the values that the class makes of a row -/
def vaRK (vs : Nat → Int32) : List Int32 → List Int32 → Option (List Int32) := rp (fun c => c) vs (fun a => if a = 0 then 1 else 0) vaK
theorem vaRK_num {vs : Nat → Int32} {c : Int32} {cs st : List Int32} (h : c < 1000) : vaRK vs (c :: cs) st = vaRK vs cs (c :: st) := by unfold vaRK; rw [rp, if_pos h]
theorem vaRK_let {vs : Nat → Int32} {c : Int32} {cs st : List Int32} (h : ¬ c < 1000) (h2 : c < 2000) : vaRK vs (c :: cs) st = vaRK vs cs (vs (c - 1000).toNatClampNeg :: st) := by unfold vaRK; rw [rp, if_neg h, if_pos h2]
theorem vaRK_bng {vs : Nat → Int32} {cs st : List Int32} {a : Int32} : vaRK vs (2033 :: cs) (a :: st) = vaRK vs cs ((if a = 0 then 1 else 0) :: st) := by unfold vaRK; rw [rp, if_neg (by decide), if_neg (by decide), if_pos rfl]; rfl
theorem vaRK_bin {vs : Nat → Int32} {c a b : Int32} {cs st : List Int32} (h : ¬ c < 1000) (h2 : ¬ c < 2000) (h3 : ¬ c = 2033) : vaRK vs (c :: cs) (b :: a :: st) = vaRK vs cs (vaK (c - 2000) a b :: st) := by unfold vaRK; rw [rp, if_neg h, if_neg h2, if_neg h3]; rfl
set_option maxRecDepth 100000 in
set_option maxHeartbeats 4000000 in
theorem rf_loop5 {G : aw_G} {w : List va_E} {a n r q : Nat} {lt : Int32} {f : Nat → Int32} (hf : fm w a n lt f) {ty : Nat → Int32} (hw1 : w[r]? = some (.inr (4, [.ref q]))) (hw2 : w[q]? = some (.inl (0, 6, .inl ty))) (hra : r ≠ a + 3) (hqa : q ≠ a + 3) (v : Int32) : ∀ (cs : List Int32) (i : Nat) (stl : List Int32) (g : Nat → Int32), i + cs.length = n → (∀ (k : Nat) (x : Int32), cs[k]? = some x → f (i + k) = stc x) → stk g stl → stl.length ≤ i → okL cs → sgL cs → tyR ty cs stl = some [v] → AW G fX2_readFor 0 0 (fW w a n g) 14 [some (.ref a), some (.ref r), some (.int (nI stl.length)), some (.ref (a + 1)), some (.int (nI n)), some (.int (nI i)), none] [] (rfQ w a n v) := by
  intro cs
  induction cs with
  | nil =>
    intro i stl g hn hpl hst hsl hok hsg hv
    have hn40 := hf.2.2.2
    cases hv
    refine r_iload (pc := 14) dX2_readFor_14 rfl ?_
    refine r_iload (pc := 16) dX2_readFor_16 rfl ?_
    refine r_icmp_ge (pc := 18) (tgt := 157) dX2_readFor_18 (by decide) (fun h18 => ?_) (fun h => absurd (by rw [show i = n by simpa using hn]; exact Int32.le_refl _) h)
    refine r_iload_n (pc := 157) dX2_readFor_157 rfl rfl ?_
    refine r_if_le (pc := 158) (tgt := 170) dX2_readFor_158 (by decide) (fun h => absurd h (show ¬ nI 1 ≤ 0 by decide)) (fun h158 => ?_)
    refine r_aload_n (pc := 161) dX2_readFor_161 rfl rfl ?_
    refine f_g15 (pc := 162) hf rfl dX2_readFor_162 ?_
    refine r_iconst (pc := 165) (v := 0) dX2_readFor_165 (by decide) ?_
    refine f_ld (pc := 166) (0) hf ⟨rfl, by simp at hn hsl; omega⟩ dX2_readFor_166 ?_
    rw [show g 0 = v from hst.1]
    refine r_goto (pc := 167) (tgt := 171) dX2_readFor_167 (by decide) ?_
    refine r_iret (pc := 171) rfl rfl dX2_readFor_171 ?_
    exact ⟨rfl, g, rfl⟩
  | cons c cs ih =>
    intro i stl g hn hpl hst hsl hok hsg hv
    have hn40 := hf.2.2.2
    have hfi : f i = stc c := hpl 0 c rfl
    have hc0 := (hok c (List.mem_cons_self ..)).1.1
    by_cases hc : c < 1000
    · have hc2 : c < 2000 := Int32.lt_trans hc (by decide)
      rw [stc_c hc2] at hfi
      refine r_iload (pc := 14) dX2_readFor_14 rfl ?_
      refine r_iload (pc := 16) dX2_readFor_16 rfl ?_
      refine r_icmp_ge (pc := 18) (tgt := 157) dX2_readFor_18 (by decide) (fun h => absurd h (nI_ge9 (by simp at hn; omega) (by omega))) (fun h18 => ?_)
      refine r_aload_n (pc := 21) dX2_readFor_21 rfl rfl ?_
      refine r_iload (pc := 22) dX2_readFor_22 rfl ?_
      refine f_ld9 (pc := 24) (i) hf ⟨rfl, by simp at hn; omega⟩ dX2_readFor_24 ?_
      rw [hfi]
      refine r_istore (pc := 25) dX2_readFor_25 (Nat.le_of_ble_eq_true rfl) rfl ?_
      refine r_iload (pc := 27) dX2_readFor_27 rfl ?_
      refine r_if_lt (pc := 29) (tgt := 80) dX2_readFor_29 (by decide) (fun h => absurd h (Int32.not_lt.mpr hc0)) (fun h29 => ?_)
      refine r_iload_n (pc := 32) dX2_readFor_32 rfl rfl ?_
      refine r_aload_n (pc := 33) dX2_readFor_33 rfl rfl ?_
      refine f_g15 (pc := 34) hf rfl dX2_readFor_34 ?_
      refine f_l15 (pc := 37) hf dX2_readFor_37 ?_
      refine r_icmp_ge (pc := 38) (tgt := 80) dX2_readFor_38 (by decide) (fun h => absurd h (nI_ge9 (by simp at hn; omega) (by omega))) (fun h38 => ?_)
      refine r_aload_n (pc := 41) dX2_readFor_41 rfl rfl ?_
      refine f_g15 (pc := 42) hf rfl dX2_readFor_42 ?_
      refine r_iload_n (pc := 45) dX2_readFor_45 rfl rfl ?_
      refine r_iload (pc := 46) dX2_readFor_46 rfl ?_
      refine r_sipush (pc := 48) (v := 1000) dX2_readFor_48 (by decide) ?_
      refine r_icmp_ge (pc := 51) (tgt := 63) dX2_readFor_51 (by decide) (fun h => absurd hc (Int32.not_lt.mpr h)) (fun h51 => ?_)
      refine r_aload_n (pc := 54) dX2_readFor_54 rfl rfl ?_
      refine r_iload (pc := 55) dX2_readFor_55 rfl ?_
      refine s_X2_29_X5 (pc := 57) (kc' := 0) (ks' := 0) rfl rfl (ac5_ofNumber _) ((fW_ne hra).trans hw1) (Nat.le_of_ble_eq_true rfl) (Nat.le_of_ble_eq_true rfl) (Nat.le_of_ble_eq_true rfl) (Nat.le_of_ble_eq_true rfl) (by exact (Nat.le_of_ble_eq_true rfl)) rfl (List.forall_mem_cons.mpr ⟨rfl, (List.forall_mem_cons.mpr ⟨rfl, fun _ h => nomatch h⟩)⟩) rfl dX2_readFor_57 aw_kt (aw_kq ?_)
      refine r_goto (pc := 60) (tgt := 73) dX2_readFor_60 (by decide) ?_
      refine f_st (pc := 73) (stl.length) hf ⟨rfl, by simp at hn; omega⟩ dX2_readFor_73 ?_
      refine r_iincK (pc := 74) (k9 := 1) dX2_readFor_74 (by decide) rfl (Nat.le_of_ble_eq_true rfl) rfl ?_
      refine r_goto (pc := 77) (tgt := 151) dX2_readFor_77 (by decide) ?_
      refine r_iincK (pc := 151) (k9 := 1) dX2_readFor_151 (by decide) rfl (Nat.le_of_ble_eq_true rfl) rfl ?_
      refine r_goto (pc := 154) (tgt := 14) dX2_readFor_154 (by decide) ?_
      rw [nI_1]
      refine AW_drop 6 rfl ?_
      rw [nI_1]
      refine ih (i + 1) (1 :: stl) _ (by simp at hn ⊢; omega) (fun k x hx => by rw [show i + 1 + k = i + (k + 1) by omega]; exact hpl (k + 1) x (by simpa using hx)) (stk_push hst) (by simp; omega) (fun x hx => hok x (List.mem_cons_of_mem _ hx)) (fun x hx => hsg x (List.mem_cons_of_mem _ hx)) ?_
      rw [← hv, tyR_num hc]
    · have hc1 := hc
      by_cases hc2 : c < 2000
      · obtain ⟨j, hj6, hcj⟩ := (hok c (List.mem_cons_self ..)).2 (Int32.not_lt.mp hc) hc2
        rw [stc_c hc2] at hfi
        refine r_iload (pc := 14) dX2_readFor_14 rfl ?_
        refine r_iload (pc := 16) dX2_readFor_16 rfl ?_
        refine r_icmp_ge (pc := 18) (tgt := 157) dX2_readFor_18 (by decide) (fun h => absurd h (nI_ge9 (by simp at hn; omega) (by omega))) (fun h18 => ?_)
        refine r_aload_n (pc := 21) dX2_readFor_21 rfl rfl ?_
        refine r_iload (pc := 22) dX2_readFor_22 rfl ?_
        refine f_ld9 (pc := 24) (i) hf ⟨rfl, by simp at hn; omega⟩ dX2_readFor_24 ?_
        rw [hfi]
        refine r_istore (pc := 25) dX2_readFor_25 (Nat.le_of_ble_eq_true rfl) rfl ?_
        refine r_iload (pc := 27) dX2_readFor_27 rfl ?_
        refine r_if_lt (pc := 29) (tgt := 80) dX2_readFor_29 (by decide) (fun h => absurd h (Int32.not_lt.mpr hc0)) (fun h29 => ?_)
        refine r_iload_n (pc := 32) dX2_readFor_32 rfl rfl ?_
        refine r_aload_n (pc := 33) dX2_readFor_33 rfl rfl ?_
        refine f_g15 (pc := 34) hf rfl dX2_readFor_34 ?_
        refine f_l15 (pc := 37) hf dX2_readFor_37 ?_
        refine r_icmp_ge (pc := 38) (tgt := 80) dX2_readFor_38 (by decide) (fun h => absurd h (nI_ge9 (by simp at hn; omega) (by omega))) (fun h38 => ?_)
        refine r_aload_n (pc := 41) dX2_readFor_41 rfl rfl ?_
        refine f_g15 (pc := 42) hf rfl dX2_readFor_42 ?_
        refine r_iload_n (pc := 45) dX2_readFor_45 rfl rfl ?_
        refine r_iload (pc := 46) dX2_readFor_46 rfl ?_
        refine r_sipush (pc := 48) (v := 1000) dX2_readFor_48 (by decide) ?_
        refine r_icmp_ge (pc := 51) (tgt := 63) dX2_readFor_51 (by decide) (fun h51 => ?_) (fun h => absurd (Int32.not_le.mp h) hc1)
        refine r_aload_n (pc := 63) dX2_readFor_63 rfl rfl ?_
        refine r_iload (pc := 64) dX2_readFor_64 rfl ?_
        refine r_sipush (pc := 66) (v := 1000) dX2_readFor_66 (by decide) ?_
        refine r_isub (pc := 69) dX2_readFor_69 ?_
        rw [show c - 1000 = nI j by rw [hcj, show nI (1000 + j) - 1000 = nI (1000 + j - 1000) from pk_sub (b := 1000) (by omega)]; congr 1; omega]
        refine s_X2_34_X5 (pc := 70) (kc' := 0) (ks' := 0) rfl rfl (ac5_ofField ((fW_ne hra).trans hw1) ((fW_ne hqa).trans hw2) hj6) ((fW_ne hra).trans hw1) (Nat.le_of_ble_eq_true rfl) (Nat.le_of_ble_eq_true rfl) (Nat.le_of_ble_eq_true rfl) (Nat.le_of_ble_eq_true rfl) (by exact (Nat.le_of_ble_eq_true rfl)) rfl (List.forall_mem_cons.mpr ⟨rfl, (List.forall_mem_cons.mpr ⟨rfl, fun _ h => nomatch h⟩)⟩) rfl dX2_readFor_70 aw_kt (aw_kq ?_)
        refine f_st (pc := 73) (stl.length) hf ⟨rfl, by simp at hn; omega⟩ dX2_readFor_73 ?_
        refine r_iincK (pc := 74) (k9 := 1) dX2_readFor_74 (by decide) rfl (Nat.le_of_ble_eq_true rfl) rfl ?_
        refine r_goto (pc := 77) (tgt := 151) dX2_readFor_77 (by decide) ?_
        refine r_iincK (pc := 151) (k9 := 1) dX2_readFor_151 (by decide) rfl (Nat.le_of_ble_eq_true rfl) rfl ?_
        refine r_goto (pc := 154) (tgt := 14) dX2_readFor_154 (by decide) ?_
        rw [nI_1]
        refine AW_drop 6 rfl ?_
        rw [nI_1]
        refine ih (i + 1) ((tyL ty j) :: stl) _ (by simp at hn ⊢; omega) (fun k x hx => by rw [show i + 1 + k = i + (k + 1) by omega]; exact hpl (k + 1) x (by simpa using hx)) (stk_push hst) (by simp; omega) (fun x hx => hok x (List.mem_cons_of_mem _ hx)) (fun x hx => hsg x (List.mem_cons_of_mem _ hx)) ?_
        rw [← hv, tyR_let hc1 hc2, show (c - 1000).toNatClampNeg = j by rw [hcj, show nI (1000 + j) - 1000 = nI (1000 + j - 1000) from pk_sub (b := 1000) (by omega), nI_clamp (by omega)]; omega]
      · by_cases h33 : c = 2033
        · subst h33
          have hv0 := hv
          unfold tyR at hv0
          obtain ⟨x, s, rfl⟩ := rp_bng hv0
          rw [show stc 2033 = -33 by decide] at hfi
          rw [show (x :: s).length = s.length + 1 from rfl] at hsl ⊢
          refine r_iload (pc := 14) dX2_readFor_14 rfl ?_
          refine r_iload (pc := 16) dX2_readFor_16 rfl ?_
          refine r_icmp_ge (pc := 18) (tgt := 157) dX2_readFor_18 (by decide) (fun h => absurd h (nI_ge9 (by simp at hn; omega) (by omega))) (fun h18 => ?_)
          refine r_aload_n (pc := 21) dX2_readFor_21 rfl rfl ?_
          refine r_iload (pc := 22) dX2_readFor_22 rfl ?_
          refine f_ld9 (pc := 24) (i) hf ⟨rfl, by simp at hn; omega⟩ dX2_readFor_24 ?_
          rw [hfi]
          refine r_istore (pc := 25) dX2_readFor_25 (Nat.le_of_ble_eq_true rfl) rfl ?_
          refine r_iload (pc := 27) dX2_readFor_27 rfl ?_
          refine r_if_lt (pc := 29) (tgt := 80) dX2_readFor_29 (by decide) (fun h29 => ?_) (fun h => absurd (by decide) h)
          refine r_iload (pc := 80) dX2_readFor_80 rfl ?_
          refine r_bipush (pc := 82) (v := -33) dX2_readFor_82 (by decide) ?_
          refine r_icmp_ne (pc := 84) (tgt := 114) dX2_readFor_84 (by decide) (fun h => absurd rfl h) (fun h84 => ?_)
          refine r_iload_n (pc := 87) dX2_readFor_87 rfl rfl ?_
          refine r_if_le (pc := 88) (tgt := 114) dX2_readFor_88 (by decide) (fun h => absurd h (nI_nle (Nat.succ_pos _) (by simp at hn hsl; omega))) (fun h88 => ?_)
          refine r_aload_n (pc := 91) dX2_readFor_91 rfl rfl ?_
          refine f_g15 (pc := 92) hf rfl dX2_readFor_92 ?_
          refine r_iload_n (pc := 95) dX2_readFor_95 rfl rfl ?_
          refine r_iconst (pc := 96) (v := 1) dX2_readFor_96 (by decide) ?_
          refine r_isub (pc := 97) dX2_readFor_97 ?_
          refine r_aload_n (pc := 98) dX2_readFor_98 rfl rfl ?_
          refine r_aload_n (pc := 99) dX2_readFor_99 rfl rfl ?_
          refine f_g15 (pc := 100) hf rfl dX2_readFor_100 ?_
          refine r_iload_n (pc := 103) dX2_readFor_103 rfl rfl ?_
          refine r_iconst (pc := 104) (v := 1) dX2_readFor_104 (by decide) ?_
          refine r_isub (pc := 105) dX2_readFor_105 ?_
          
          refine f_ld (pc := 106) (s.length) hf ⟨nI_pred _, by simp at hn hsl; omega⟩ dX2_readFor_106 ?_
          rw [show g s.length = x from hst.1]
          refine s_X2_37_X5 (pc := 107) (kc' := 0) (ks' := 0) rfl rfl (ac5_ofNot _) ((fW_ne hra).trans hw1) (Nat.le_of_ble_eq_true rfl) (Nat.le_of_ble_eq_true rfl) (Nat.le_of_ble_eq_true rfl) (Nat.le_of_ble_eq_true rfl) (by exact (Nat.le_of_ble_eq_true rfl)) rfl (List.forall_mem_cons.mpr ⟨rfl, (List.forall_mem_cons.mpr ⟨rfl, fun _ h => nomatch h⟩)⟩) rfl dX2_readFor_107 aw_kt (aw_kq ?_)
          refine f_st (pc := 110) (s.length) hf ⟨nI_pred _, by simp at hn hsl; omega⟩ dX2_readFor_110 ?_
          refine r_goto (pc := 111) (tgt := 151) dX2_readFor_111 (by decide) ?_
          refine r_iincK (pc := 151) (k9 := 1) dX2_readFor_151 (by decide) rfl (Nat.le_of_ble_eq_true rfl) rfl ?_
          refine r_goto (pc := 154) (tgt := 14) dX2_readFor_154 (by decide) ?_
          refine AW_drop 6 rfl ?_
          rw [nI_1]
          refine ih (i + 1) ((tyB x) :: s) _ (by simp at hn ⊢; omega) (fun k x hx => by rw [show i + 1 + k = i + (k + 1) by omega]; exact hpl (k + 1) x (by simpa using hx)) (stk_push hst.2) (by simp at hsl ⊢; omega) (fun x hx => hok x (List.mem_cons_of_mem _ hx)) (fun x hx => hsg x (List.mem_cons_of_mem _ hx)) ?_
          rw [← hv, tyR_bng]
        · have hv0 := hv
          unfold tyR at hv0
          obtain ⟨y, x, s, rfl⟩ := rp_bin hc1 hc2 h33 hv0
          have hk : 0 < rkN (c - 2000) := (hsg c (List.mem_cons_self ..) hc2).resolve_left h33
          have hneg := stc_neg hc2 (hok c (List.mem_cons_self ..)).1.2 hk
          rw [show (y :: x :: s).length = s.length + 1 + 1 from rfl] at hsl ⊢
          refine r_iload (pc := 14) dX2_readFor_14 rfl ?_
          refine r_iload (pc := 16) dX2_readFor_16 rfl ?_
          refine r_icmp_ge (pc := 18) (tgt := 157) dX2_readFor_18 (by decide) (fun h => absurd h (nI_ge9 (by simp at hn; omega) (by omega))) (fun h18 => ?_)
          refine r_aload_n (pc := 21) dX2_readFor_21 rfl rfl ?_
          refine r_iload (pc := 22) dX2_readFor_22 rfl ?_
          refine f_ld9 (pc := 24) (i) hf ⟨rfl, by simp at hn; omega⟩ dX2_readFor_24 ?_
          rw [hfi]
          refine r_istore (pc := 25) dX2_readFor_25 (Nat.le_of_ble_eq_true rfl) rfl ?_
          refine r_iload (pc := 27) dX2_readFor_27 rfl ?_
          refine r_if_lt (pc := 29) (tgt := 80) dX2_readFor_29 (by decide) (fun h29 => ?_) (fun h => absurd hneg.1 h)
          refine r_iload (pc := 80) dX2_readFor_80 rfl ?_
          refine r_bipush (pc := 82) (v := -33) dX2_readFor_82 (by decide) ?_
          refine r_icmp_ne (pc := 84) (tgt := 114) dX2_readFor_84 (by decide) (fun h84 => ?_) (fun h => absurd h hneg.2.1)
          refine r_iload_n (pc := 114) dX2_readFor_114 rfl rfl ?_
          refine r_iconst (pc := 115) (v := 1) dX2_readFor_115 (by decide) ?_
          refine r_icmp_le (pc := 116) (tgt := 151) dX2_readFor_116 (by decide) (fun h => absurd h (fun z => by have := (nI_leI (a := s.length + 1 + 1) (b := 1) (by simp at hn hsl; omega) (by decide)).mp z; omega)) (fun h116 => ?_)
          refine r_iincK (pc := 119) (k9 := -1) dX2_readFor_119 (by decide) rfl (Nat.le_of_ble_eq_true rfl) rfl ?_
          rw [pk_m1]
          refine r_aload_n (pc := 122) dX2_readFor_122 rfl rfl ?_
          refine f_g15 (pc := 123) hf rfl dX2_readFor_123 ?_
          refine r_iload_n (pc := 126) dX2_readFor_126 rfl rfl ?_
          refine r_iconst (pc := 127) (v := 1) dX2_readFor_127 (by decide) ?_
          refine r_isub (pc := 128) dX2_readFor_128 ?_
          refine r_aload_n (pc := 129) dX2_readFor_129 rfl rfl ?_
          refine r_iload (pc := 130) dX2_readFor_130 rfl ?_
          refine r_ineg (pc := 132) dX2_readFor_132 ?_
          rw [hneg.2.2]
          refine r_aload_n (pc := 133) dX2_readFor_133 rfl rfl ?_
          refine f_g15 (pc := 134) hf rfl dX2_readFor_134 ?_
          refine r_iload_n (pc := 137) dX2_readFor_137 rfl rfl ?_
          refine r_iconst (pc := 138) (v := 1) dX2_readFor_138 (by decide) ?_
          refine r_isub (pc := 139) dX2_readFor_139 ?_
          refine f_ld (pc := 140) (s.length) hf ⟨nI_pred _, by simp at hn hsl; omega⟩ dX2_readFor_140 ?_
          rw [show g s.length = x from hst.2.1]
          refine r_aload_n (pc := 141) dX2_readFor_141 rfl rfl ?_
          refine f_g15 (pc := 142) hf rfl dX2_readFor_142 ?_
          refine r_iload_n (pc := 145) dX2_readFor_145 rfl rfl ?_
          refine f_ld (pc := 146) (s.length + 1) hf ⟨rfl, by simp at hn hsl; omega⟩ dX2_readFor_146 ?_
          rw [show g (s.length + 1) = y from hst.1]
          refine s_X2_40_X5 (pc := 147) (kc' := 0) (ks' := 0) rfl rfl (ac5_ofSign hk _ _) ((fW_ne hra).trans hw1) (Nat.le_of_ble_eq_true rfl) (Nat.le_of_ble_eq_true rfl) (Nat.le_of_ble_eq_true rfl) (Nat.le_of_ble_eq_true rfl) (by exact (Nat.le_of_ble_eq_true rfl)) rfl (List.forall_mem_cons.mpr ⟨rfl, (List.forall_mem_cons.mpr ⟨rfl, (List.forall_mem_cons.mpr ⟨rfl, (List.forall_mem_cons.mpr ⟨rfl, fun _ h => nomatch h⟩)⟩)⟩)⟩) rfl dX2_readFor_147 aw_kt (aw_kq ?_)
          refine f_st (pc := 150) (s.length) hf ⟨nI_pred _, by simp at hn hsl; omega⟩ dX2_readFor_150 ?_
          refine r_iincK (pc := 151) (k9 := 1) dX2_readFor_151 (by decide) rfl (Nat.le_of_ble_eq_true rfl) rfl ?_
          refine r_goto (pc := 154) (tgt := 14) dX2_readFor_154 (by decide) ?_
          refine AW_drop 6 rfl ?_
          rw [nI_1]
          refine ih (i + 1) ((tyF (c - 2000) x y) :: s) _ (by simp at hn ⊢; omega) (fun k x hx => by rw [show i + 1 + k = i + (k + 1) by omega]; exact hpl (k + 1) x (by simpa using hx)) (stk_push hst.2.2) (by simp at hsl ⊢; omega) (fun x hx => hok x (List.mem_cons_of_mem _ hx)) (fun x hx => hsg x (List.mem_cons_of_mem _ hx)) ?_
          rw [← hv, tyR_bin hc1 hc2 h33]
set_option maxRecDepth 100000 in
set_option maxHeartbeats 4000000 in
theorem ac5_readFor {G : aw_G} {w : List va_E} {a n r q : Nat} {lt : Int32} {f : Nat → Int32} (hf : fm w a n lt f) {ty : Nat → Int32} (hw1 : w[r]? = some (.inr (4, [.ref q]))) (hw2 : w[q]? = some (.inl (0, 6, .inl ty))) (hra : r ≠ a + 3) (hqa : q ≠ a + 3) {row : List Int32} (hrl : row.length = n) (hpl : ∀ (k : Nat) (x : Int32), row[k]? = some x → f k = stc x) (hok : okL row) (hsg : sgL row) {v : Int32} (hv : tyR ty row [] = some [v]) : AM G fX2_readFor [.ref a, .ref r] w (rfQ w a n v) := by
  obtain ⟨g0, hg0⟩ := hf.2.2.1
  refine AM_of (by decide) rfl rfl (Nat.le_of_ble_eq_true rfl) ?_
  show AW G fX2_readFor 0 0 w 0 [some (.ref a), some (.ref r), none, none, none, none, none] [] _
  rw [← fW_self hg0, show rfQ (fW w a n g0) a n v = rfQ w a n v by rw [fW_self hg0]]
  refine r_iconst (pc := 0) (v := 0) dX2_readFor_0 (by decide) ?_
  refine r_istore_n (pc := 1) dX2_readFor_1 rfl (Nat.le_of_ble_eq_true rfl) rfl ?_
  refine r_aload_n (pc := 2) dX2_readFor_2 rfl rfl ?_
  refine f_g9 (pc := 3) hf rfl dX2_readFor_3 ?_
  refine r_astore_n (pc := 6) dX2_readFor_6 rfl (Nat.le_of_ble_eq_true rfl) rfl ?_
  refine r_aload_n (pc := 7) dX2_readFor_7 rfl rfl ?_
  refine f_l9 (pc := 8) hf dX2_readFor_8 ?_
  refine r_istore (pc := 9) dX2_readFor_9 (Nat.le_of_ble_eq_true rfl) rfl ?_
  refine r_iconst (pc := 11) (v := 0) dX2_readFor_11 (by decide) ?_
  refine r_istore (pc := 12) dX2_readFor_12 (Nat.le_of_ble_eq_true rfl) rfl ?_
  refine rf_loop5 hf hw1 hw2 hra hqa v row 0 [] _ (by rw [Nat.zero_add]; exact hrl) (fun k x hx => by rw [Nat.zero_add]; exact hpl k x hx) trivial (Nat.le_refl _) hok hsg hv
set_option maxRecDepth 100000 in
set_option maxHeartbeats 4000000 in
theorem rf_loop6 {G : aw_G} {w : List va_E} {a n r q : Nat} {lt : Int32} {f : Nat → Int32} (hf : fm w a n lt f) {kn : Int32} {vs : Nat → Int32} (hw1 : w[r]? = some (.inr (5, [.ref q, .int kn]))) (hw2 : w[q]? = some (.inl (0, 6, .inl vs))) (hra : r ≠ a + 3) (hqa : q ≠ a + 3) (v : Int32) : ∀ (cs : List Int32) (i : Nat) (stl : List Int32) (g : Nat → Int32), i + cs.length = n → (∀ (k : Nat) (x : Int32), cs[k]? = some x → f (i + k) = stc x) → stk g stl → stl.length ≤ i → okL cs → sgL cs → vaRK vs cs stl = some [v] → AW G fX2_readFor 0 0 (fW w a n g) 14 [some (.ref a), some (.ref r), some (.int (nI stl.length)), some (.ref (a + 1)), some (.int (nI n)), some (.int (nI i)), none] [] (rfQ w a n v) := by
  intro cs
  induction cs with
  | nil =>
    intro i stl g hn hpl hst hsl hok hsg hv
    have hn40 := hf.2.2.2
    cases hv
    refine r_iload (pc := 14) dX2_readFor_14 rfl ?_
    refine r_iload (pc := 16) dX2_readFor_16 rfl ?_
    refine r_icmp_ge (pc := 18) (tgt := 157) dX2_readFor_18 (by decide) (fun h18 => ?_) (fun h => absurd (by rw [show i = n by simpa using hn]; exact Int32.le_refl _) h)
    refine r_iload_n (pc := 157) dX2_readFor_157 rfl rfl ?_
    refine r_if_le (pc := 158) (tgt := 170) dX2_readFor_158 (by decide) (fun h => absurd h (show ¬ nI 1 ≤ 0 by decide)) (fun h158 => ?_)
    refine r_aload_n (pc := 161) dX2_readFor_161 rfl rfl ?_
    refine f_g15 (pc := 162) hf rfl dX2_readFor_162 ?_
    refine r_iconst (pc := 165) (v := 0) dX2_readFor_165 (by decide) ?_
    refine f_ld (pc := 166) (0) hf ⟨rfl, by simp at hn hsl; omega⟩ dX2_readFor_166 ?_
    rw [show g 0 = v from hst.1]
    refine r_goto (pc := 167) (tgt := 171) dX2_readFor_167 (by decide) ?_
    refine r_iret (pc := 171) rfl rfl dX2_readFor_171 ?_
    exact ⟨rfl, g, rfl⟩
  | cons c cs ih =>
    intro i stl g hn hpl hst hsl hok hsg hv
    have hn40 := hf.2.2.2
    have hfi : f i = stc c := hpl 0 c rfl
    have hc0 := (hok c (List.mem_cons_self ..)).1.1
    by_cases hc : c < 1000
    · have hc2 : c < 2000 := Int32.lt_trans hc (by decide)
      rw [stc_c hc2] at hfi
      refine r_iload (pc := 14) dX2_readFor_14 rfl ?_
      refine r_iload (pc := 16) dX2_readFor_16 rfl ?_
      refine r_icmp_ge (pc := 18) (tgt := 157) dX2_readFor_18 (by decide) (fun h => absurd h (nI_ge9 (by simp at hn; omega) (by omega))) (fun h18 => ?_)
      refine r_aload_n (pc := 21) dX2_readFor_21 rfl rfl ?_
      refine r_iload (pc := 22) dX2_readFor_22 rfl ?_
      refine f_ld9 (pc := 24) (i) hf ⟨rfl, by simp at hn; omega⟩ dX2_readFor_24 ?_
      rw [hfi]
      refine r_istore (pc := 25) dX2_readFor_25 (Nat.le_of_ble_eq_true rfl) rfl ?_
      refine r_iload (pc := 27) dX2_readFor_27 rfl ?_
      refine r_if_lt (pc := 29) (tgt := 80) dX2_readFor_29 (by decide) (fun h => absurd h (Int32.not_lt.mpr hc0)) (fun h29 => ?_)
      refine r_iload_n (pc := 32) dX2_readFor_32 rfl rfl ?_
      refine r_aload_n (pc := 33) dX2_readFor_33 rfl rfl ?_
      refine f_g15 (pc := 34) hf rfl dX2_readFor_34 ?_
      refine f_l15 (pc := 37) hf dX2_readFor_37 ?_
      refine r_icmp_ge (pc := 38) (tgt := 80) dX2_readFor_38 (by decide) (fun h => absurd h (nI_ge9 (by simp at hn; omega) (by omega))) (fun h38 => ?_)
      refine r_aload_n (pc := 41) dX2_readFor_41 rfl rfl ?_
      refine f_g15 (pc := 42) hf rfl dX2_readFor_42 ?_
      refine r_iload_n (pc := 45) dX2_readFor_45 rfl rfl ?_
      refine r_iload (pc := 46) dX2_readFor_46 rfl ?_
      refine r_sipush (pc := 48) (v := 1000) dX2_readFor_48 (by decide) ?_
      refine r_icmp_ge (pc := 51) (tgt := 63) dX2_readFor_51 (by decide) (fun h => absurd hc (Int32.not_lt.mpr h)) (fun h51 => ?_)
      refine r_aload_n (pc := 54) dX2_readFor_54 rfl rfl ?_
      refine r_iload (pc := 55) dX2_readFor_55 rfl ?_
      refine s_X2_29_X6 (pc := 57) (kc' := 0) (ks' := 0) rfl rfl (ac6_ofNumber _) ((fW_ne hra).trans hw1) (Nat.le_of_ble_eq_true rfl) (Nat.le_of_ble_eq_true rfl) (Nat.le_of_ble_eq_true rfl) (Nat.le_of_ble_eq_true rfl) (by exact (Nat.le_of_ble_eq_true rfl)) rfl (List.forall_mem_cons.mpr ⟨rfl, (List.forall_mem_cons.mpr ⟨rfl, fun _ h => nomatch h⟩)⟩) rfl dX2_readFor_57 aw_kt (aw_kq ?_)
      refine r_goto (pc := 60) (tgt := 73) dX2_readFor_60 (by decide) ?_
      refine f_st (pc := 73) (stl.length) hf ⟨rfl, by simp at hn; omega⟩ dX2_readFor_73 ?_
      refine r_iincK (pc := 74) (k9 := 1) dX2_readFor_74 (by decide) rfl (Nat.le_of_ble_eq_true rfl) rfl ?_
      refine r_goto (pc := 77) (tgt := 151) dX2_readFor_77 (by decide) ?_
      refine r_iincK (pc := 151) (k9 := 1) dX2_readFor_151 (by decide) rfl (Nat.le_of_ble_eq_true rfl) rfl ?_
      refine r_goto (pc := 154) (tgt := 14) dX2_readFor_154 (by decide) ?_
      rw [nI_1]
      refine AW_drop 6 rfl ?_
      rw [nI_1]
      refine ih (i + 1) (c :: stl) _ (by simp at hn ⊢; omega) (fun k x hx => by rw [show i + 1 + k = i + (k + 1) by omega]; exact hpl (k + 1) x (by simpa using hx)) (stk_push hst) (by simp; omega) (fun x hx => hok x (List.mem_cons_of_mem _ hx)) (fun x hx => hsg x (List.mem_cons_of_mem _ hx)) ?_
      rw [← hv, vaRK_num hc]
    · have hc1 := hc
      by_cases hc2 : c < 2000
      · obtain ⟨j, hj6, hcj⟩ := (hok c (List.mem_cons_self ..)).2 (Int32.not_lt.mp hc) hc2
        rw [stc_c hc2] at hfi
        refine r_iload (pc := 14) dX2_readFor_14 rfl ?_
        refine r_iload (pc := 16) dX2_readFor_16 rfl ?_
        refine r_icmp_ge (pc := 18) (tgt := 157) dX2_readFor_18 (by decide) (fun h => absurd h (nI_ge9 (by simp at hn; omega) (by omega))) (fun h18 => ?_)
        refine r_aload_n (pc := 21) dX2_readFor_21 rfl rfl ?_
        refine r_iload (pc := 22) dX2_readFor_22 rfl ?_
        refine f_ld9 (pc := 24) (i) hf ⟨rfl, by simp at hn; omega⟩ dX2_readFor_24 ?_
        rw [hfi]
        refine r_istore (pc := 25) dX2_readFor_25 (Nat.le_of_ble_eq_true rfl) rfl ?_
        refine r_iload (pc := 27) dX2_readFor_27 rfl ?_
        refine r_if_lt (pc := 29) (tgt := 80) dX2_readFor_29 (by decide) (fun h => absurd h (Int32.not_lt.mpr hc0)) (fun h29 => ?_)
        refine r_iload_n (pc := 32) dX2_readFor_32 rfl rfl ?_
        refine r_aload_n (pc := 33) dX2_readFor_33 rfl rfl ?_
        refine f_g15 (pc := 34) hf rfl dX2_readFor_34 ?_
        refine f_l15 (pc := 37) hf dX2_readFor_37 ?_
        refine r_icmp_ge (pc := 38) (tgt := 80) dX2_readFor_38 (by decide) (fun h => absurd h (nI_ge9 (by simp at hn; omega) (by omega))) (fun h38 => ?_)
        refine r_aload_n (pc := 41) dX2_readFor_41 rfl rfl ?_
        refine f_g15 (pc := 42) hf rfl dX2_readFor_42 ?_
        refine r_iload_n (pc := 45) dX2_readFor_45 rfl rfl ?_
        refine r_iload (pc := 46) dX2_readFor_46 rfl ?_
        refine r_sipush (pc := 48) (v := 1000) dX2_readFor_48 (by decide) ?_
        refine r_icmp_ge (pc := 51) (tgt := 63) dX2_readFor_51 (by decide) (fun h51 => ?_) (fun h => absurd (Int32.not_le.mp h) hc1)
        refine r_aload_n (pc := 63) dX2_readFor_63 rfl rfl ?_
        refine r_iload (pc := 64) dX2_readFor_64 rfl ?_
        refine r_sipush (pc := 66) (v := 1000) dX2_readFor_66 (by decide) ?_
        refine r_isub (pc := 69) dX2_readFor_69 ?_
        rw [show c - 1000 = nI j by rw [hcj, show nI (1000 + j) - 1000 = nI (1000 + j - 1000) from pk_sub (b := 1000) (by omega)]; congr 1; omega]
        refine s_X2_34_X6 (pc := 70) (kc' := 0) (ks' := 0) rfl rfl (ac6_ofField ((fW_ne hra).trans hw1) ((fW_ne hqa).trans hw2) hj6) ((fW_ne hra).trans hw1) (Nat.le_of_ble_eq_true rfl) (Nat.le_of_ble_eq_true rfl) (Nat.le_of_ble_eq_true rfl) (Nat.le_of_ble_eq_true rfl) (by exact (Nat.le_of_ble_eq_true rfl)) rfl (List.forall_mem_cons.mpr ⟨rfl, (List.forall_mem_cons.mpr ⟨rfl, fun _ h => nomatch h⟩)⟩) rfl dX2_readFor_70 aw_kt (aw_kq ?_)
        refine f_st (pc := 73) (stl.length) hf ⟨rfl, by simp at hn; omega⟩ dX2_readFor_73 ?_
        refine r_iincK (pc := 74) (k9 := 1) dX2_readFor_74 (by decide) rfl (Nat.le_of_ble_eq_true rfl) rfl ?_
        refine r_goto (pc := 77) (tgt := 151) dX2_readFor_77 (by decide) ?_
        refine r_iincK (pc := 151) (k9 := 1) dX2_readFor_151 (by decide) rfl (Nat.le_of_ble_eq_true rfl) rfl ?_
        refine r_goto (pc := 154) (tgt := 14) dX2_readFor_154 (by decide) ?_
        rw [nI_1]
        refine AW_drop 6 rfl ?_
        rw [nI_1]
        refine ih (i + 1) ((vs j) :: stl) _ (by simp at hn ⊢; omega) (fun k x hx => by rw [show i + 1 + k = i + (k + 1) by omega]; exact hpl (k + 1) x (by simpa using hx)) (stk_push hst) (by simp; omega) (fun x hx => hok x (List.mem_cons_of_mem _ hx)) (fun x hx => hsg x (List.mem_cons_of_mem _ hx)) ?_
        rw [← hv, vaRK_let hc1 hc2, show (c - 1000).toNatClampNeg = j by rw [hcj, show nI (1000 + j) - 1000 = nI (1000 + j - 1000) from pk_sub (b := 1000) (by omega), nI_clamp (by omega)]; omega]
      · by_cases h33 : c = 2033
        · subst h33
          have hv0 := hv
          unfold vaRK at hv0
          obtain ⟨x, s, rfl⟩ := rp_bng hv0
          rw [show stc 2033 = -33 by decide] at hfi
          rw [show (x :: s).length = s.length + 1 from rfl] at hsl ⊢
          refine r_iload (pc := 14) dX2_readFor_14 rfl ?_
          refine r_iload (pc := 16) dX2_readFor_16 rfl ?_
          refine r_icmp_ge (pc := 18) (tgt := 157) dX2_readFor_18 (by decide) (fun h => absurd h (nI_ge9 (by simp at hn; omega) (by omega))) (fun h18 => ?_)
          refine r_aload_n (pc := 21) dX2_readFor_21 rfl rfl ?_
          refine r_iload (pc := 22) dX2_readFor_22 rfl ?_
          refine f_ld9 (pc := 24) (i) hf ⟨rfl, by simp at hn; omega⟩ dX2_readFor_24 ?_
          rw [hfi]
          refine r_istore (pc := 25) dX2_readFor_25 (Nat.le_of_ble_eq_true rfl) rfl ?_
          refine r_iload (pc := 27) dX2_readFor_27 rfl ?_
          refine r_if_lt (pc := 29) (tgt := 80) dX2_readFor_29 (by decide) (fun h29 => ?_) (fun h => absurd (by decide) h)
          refine r_iload (pc := 80) dX2_readFor_80 rfl ?_
          refine r_bipush (pc := 82) (v := -33) dX2_readFor_82 (by decide) ?_
          refine r_icmp_ne (pc := 84) (tgt := 114) dX2_readFor_84 (by decide) (fun h => absurd rfl h) (fun h84 => ?_)
          refine r_iload_n (pc := 87) dX2_readFor_87 rfl rfl ?_
          refine r_if_le (pc := 88) (tgt := 114) dX2_readFor_88 (by decide) (fun h => absurd h (nI_nle (Nat.succ_pos _) (by simp at hn hsl; omega))) (fun h88 => ?_)
          refine r_aload_n (pc := 91) dX2_readFor_91 rfl rfl ?_
          refine f_g15 (pc := 92) hf rfl dX2_readFor_92 ?_
          refine r_iload_n (pc := 95) dX2_readFor_95 rfl rfl ?_
          refine r_iconst (pc := 96) (v := 1) dX2_readFor_96 (by decide) ?_
          refine r_isub (pc := 97) dX2_readFor_97 ?_
          refine r_aload_n (pc := 98) dX2_readFor_98 rfl rfl ?_
          refine r_aload_n (pc := 99) dX2_readFor_99 rfl rfl ?_
          refine f_g15 (pc := 100) hf rfl dX2_readFor_100 ?_
          refine r_iload_n (pc := 103) dX2_readFor_103 rfl rfl ?_
          refine r_iconst (pc := 104) (v := 1) dX2_readFor_104 (by decide) ?_
          refine r_isub (pc := 105) dX2_readFor_105 ?_
          
          refine f_ld (pc := 106) (s.length) hf ⟨nI_pred _, by simp at hn hsl; omega⟩ dX2_readFor_106 ?_
          rw [show g s.length = x from hst.1]
          refine s_X2_37_X6 (pc := 107) (kc' := 0) (ks' := 0) rfl rfl (ac6_ofNot _) ((fW_ne hra).trans hw1) (Nat.le_of_ble_eq_true rfl) (Nat.le_of_ble_eq_true rfl) (Nat.le_of_ble_eq_true rfl) (Nat.le_of_ble_eq_true rfl) (by exact (Nat.le_of_ble_eq_true rfl)) rfl (List.forall_mem_cons.mpr ⟨rfl, (List.forall_mem_cons.mpr ⟨rfl, fun _ h => nomatch h⟩)⟩) rfl dX2_readFor_107 aw_kt (aw_kq ?_)
          refine f_st (pc := 110) (s.length) hf ⟨nI_pred _, by simp at hn hsl; omega⟩ dX2_readFor_110 ?_
          refine r_goto (pc := 111) (tgt := 151) dX2_readFor_111 (by decide) ?_
          refine r_iincK (pc := 151) (k9 := 1) dX2_readFor_151 (by decide) rfl (Nat.le_of_ble_eq_true rfl) rfl ?_
          refine r_goto (pc := 154) (tgt := 14) dX2_readFor_154 (by decide) ?_
          refine AW_drop 6 rfl ?_
          rw [nI_1]
          refine ih (i + 1) ((if x = 0 then 1 else 0) :: s) _ (by simp at hn ⊢; omega) (fun k x hx => by rw [show i + 1 + k = i + (k + 1) by omega]; exact hpl (k + 1) x (by simpa using hx)) (stk_push hst.2) (by simp at hsl ⊢; omega) (fun x hx => hok x (List.mem_cons_of_mem _ hx)) (fun x hx => hsg x (List.mem_cons_of_mem _ hx)) ?_
          rw [← hv, vaRK_bng]
        · have hv0 := hv
          unfold vaRK at hv0
          obtain ⟨y, x, s, rfl⟩ := rp_bin hc1 hc2 h33 hv0
          have hk : 0 < rkN (c - 2000) := (hsg c (List.mem_cons_self ..) hc2).resolve_left h33
          have hneg := stc_neg hc2 (hok c (List.mem_cons_self ..)).1.2 hk
          rw [show (y :: x :: s).length = s.length + 1 + 1 from rfl] at hsl ⊢
          refine r_iload (pc := 14) dX2_readFor_14 rfl ?_
          refine r_iload (pc := 16) dX2_readFor_16 rfl ?_
          refine r_icmp_ge (pc := 18) (tgt := 157) dX2_readFor_18 (by decide) (fun h => absurd h (nI_ge9 (by simp at hn; omega) (by omega))) (fun h18 => ?_)
          refine r_aload_n (pc := 21) dX2_readFor_21 rfl rfl ?_
          refine r_iload (pc := 22) dX2_readFor_22 rfl ?_
          refine f_ld9 (pc := 24) (i) hf ⟨rfl, by simp at hn; omega⟩ dX2_readFor_24 ?_
          rw [hfi]
          refine r_istore (pc := 25) dX2_readFor_25 (Nat.le_of_ble_eq_true rfl) rfl ?_
          refine r_iload (pc := 27) dX2_readFor_27 rfl ?_
          refine r_if_lt (pc := 29) (tgt := 80) dX2_readFor_29 (by decide) (fun h29 => ?_) (fun h => absurd hneg.1 h)
          refine r_iload (pc := 80) dX2_readFor_80 rfl ?_
          refine r_bipush (pc := 82) (v := -33) dX2_readFor_82 (by decide) ?_
          refine r_icmp_ne (pc := 84) (tgt := 114) dX2_readFor_84 (by decide) (fun h84 => ?_) (fun h => absurd h hneg.2.1)
          refine r_iload_n (pc := 114) dX2_readFor_114 rfl rfl ?_
          refine r_iconst (pc := 115) (v := 1) dX2_readFor_115 (by decide) ?_
          refine r_icmp_le (pc := 116) (tgt := 151) dX2_readFor_116 (by decide) (fun h => absurd h (fun z => by have := (nI_leI (a := s.length + 1 + 1) (b := 1) (by simp at hn hsl; omega) (by decide)).mp z; omega)) (fun h116 => ?_)
          refine r_iincK (pc := 119) (k9 := -1) dX2_readFor_119 (by decide) rfl (Nat.le_of_ble_eq_true rfl) rfl ?_
          rw [pk_m1]
          refine r_aload_n (pc := 122) dX2_readFor_122 rfl rfl ?_
          refine f_g15 (pc := 123) hf rfl dX2_readFor_123 ?_
          refine r_iload_n (pc := 126) dX2_readFor_126 rfl rfl ?_
          refine r_iconst (pc := 127) (v := 1) dX2_readFor_127 (by decide) ?_
          refine r_isub (pc := 128) dX2_readFor_128 ?_
          refine r_aload_n (pc := 129) dX2_readFor_129 rfl rfl ?_
          refine r_iload (pc := 130) dX2_readFor_130 rfl ?_
          refine r_ineg (pc := 132) dX2_readFor_132 ?_
          rw [hneg.2.2]
          refine r_aload_n (pc := 133) dX2_readFor_133 rfl rfl ?_
          refine f_g15 (pc := 134) hf rfl dX2_readFor_134 ?_
          refine r_iload_n (pc := 137) dX2_readFor_137 rfl rfl ?_
          refine r_iconst (pc := 138) (v := 1) dX2_readFor_138 (by decide) ?_
          refine r_isub (pc := 139) dX2_readFor_139 ?_
          refine f_ld (pc := 140) (s.length) hf ⟨nI_pred _, by simp at hn hsl; omega⟩ dX2_readFor_140 ?_
          rw [show g s.length = x from hst.2.1]
          refine r_aload_n (pc := 141) dX2_readFor_141 rfl rfl ?_
          refine f_g15 (pc := 142) hf rfl dX2_readFor_142 ?_
          refine r_iload_n (pc := 145) dX2_readFor_145 rfl rfl ?_
          refine f_ld (pc := 146) (s.length + 1) hf ⟨rfl, by simp at hn hsl; omega⟩ dX2_readFor_146 ?_
          rw [show g (s.length + 1) = y from hst.1]
          refine s_X2_40_X6 (pc := 147) (kc' := 0) (ks' := 0) rfl rfl (ac6_ofSign hk _ _) ((fW_ne hra).trans hw1) (Nat.le_of_ble_eq_true rfl) (Nat.le_of_ble_eq_true rfl) (Nat.le_of_ble_eq_true rfl) (Nat.le_of_ble_eq_true rfl) (by exact (Nat.le_of_ble_eq_true rfl)) rfl (List.forall_mem_cons.mpr ⟨rfl, (List.forall_mem_cons.mpr ⟨rfl, (List.forall_mem_cons.mpr ⟨rfl, (List.forall_mem_cons.mpr ⟨rfl, fun _ h => nomatch h⟩)⟩)⟩)⟩) rfl dX2_readFor_147 aw_kt (aw_kq ?_)
          refine f_st (pc := 150) (s.length) hf ⟨nI_pred _, by simp at hn hsl; omega⟩ dX2_readFor_150 ?_
          refine r_iincK (pc := 151) (k9 := 1) dX2_readFor_151 (by decide) rfl (Nat.le_of_ble_eq_true rfl) rfl ?_
          refine r_goto (pc := 154) (tgt := 14) dX2_readFor_154 (by decide) ?_
          refine AW_drop 6 rfl ?_
          rw [nI_1]
          refine ih (i + 1) ((vaK (c - 2000) x y) :: s) _ (by simp at hn ⊢; omega) (fun k x hx => by rw [show i + 1 + k = i + (k + 1) by omega]; exact hpl (k + 1) x (by simpa using hx)) (stk_push hst.2.2) (by simp at hsl ⊢; omega) (fun x hx => hok x (List.mem_cons_of_mem _ hx)) (fun x hx => hsg x (List.mem_cons_of_mem _ hx)) ?_
          rw [← hv, vaRK_bin hc1 hc2 h33]
set_option maxRecDepth 100000 in
set_option maxHeartbeats 4000000 in
theorem ac6_readFor {G : aw_G} {w : List va_E} {a n r q : Nat} {lt : Int32} {f : Nat → Int32} (hf : fm w a n lt f) {kn : Int32} {vs : Nat → Int32} (hw1 : w[r]? = some (.inr (5, [.ref q, .int kn]))) (hw2 : w[q]? = some (.inl (0, 6, .inl vs))) (hra : r ≠ a + 3) (hqa : q ≠ a + 3) {row : List Int32} (hrl : row.length = n) (hpl : ∀ (k : Nat) (x : Int32), row[k]? = some x → f k = stc x) (hok : okL row) (hsg : sgL row) {v : Int32} (hv : vaRK vs row [] = some [v]) : AM G fX2_readFor [.ref a, .ref r] w (rfQ w a n v) := by
  obtain ⟨g0, hg0⟩ := hf.2.2.1
  refine AM_of (by decide) rfl rfl (Nat.le_of_ble_eq_true rfl) ?_
  show AW G fX2_readFor 0 0 w 0 [some (.ref a), some (.ref r), none, none, none, none, none] [] _
  rw [← fW_self hg0, show rfQ (fW w a n g0) a n v = rfQ w a n v by rw [fW_self hg0]]
  refine r_iconst (pc := 0) (v := 0) dX2_readFor_0 (by decide) ?_
  refine r_istore_n (pc := 1) dX2_readFor_1 rfl (Nat.le_of_ble_eq_true rfl) rfl ?_
  refine r_aload_n (pc := 2) dX2_readFor_2 rfl rfl ?_
  refine f_g9 (pc := 3) hf rfl dX2_readFor_3 ?_
  refine r_astore_n (pc := 6) dX2_readFor_6 rfl (Nat.le_of_ble_eq_true rfl) rfl ?_
  refine r_aload_n (pc := 7) dX2_readFor_7 rfl rfl ?_
  refine f_l9 (pc := 8) hf dX2_readFor_8 ?_
  refine r_istore (pc := 9) dX2_readFor_9 (Nat.le_of_ble_eq_true rfl) rfl ?_
  refine r_iconst (pc := 11) (v := 0) dX2_readFor_11 (by decide) ?_
  refine r_istore (pc := 12) dX2_readFor_12 (Nat.le_of_ble_eq_true rfl) rfl ?_
  refine rf_loop6 hf hw1 hw2 hra hqa v row 0 [] _ (by rw [Nat.zero_add]; exact hrl) (fun k x hx => by rw [Nat.zero_add]; exact hpl k x hx) trivial (Nat.le_refl _) hok hsg hv
end S11
