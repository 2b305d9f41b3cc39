/-! ===== the class: the small methods of Source ===== -/
section S1
def hd (tx : Nat → Int32) (p tn : Nat) : Int32 := if p < tn then tx p else 0
def chOK (tx : Nat → Int32) (tn : Nat) : Prop := ∀ j : Nat, j < tn → narrow .char (.int (tx j)) = .int (tx j)
theorem nI_lt9 {a b : Nat} (ha : a < 2 ^ 31) (h : ¬ nI a ≥ nI b) : a < b := Nat.lt_of_not_le (fun z => h (nI_le z ha))
theorem nI_ge8 {a b : Nat} (hb : b < 2 ^ 31) (h : nI a ≥ nI b) (ha : a < 2 ^ 31) : b ≤ a := (nI_leI hb ha).mp h
set_option maxRecDepth 100000 in
set_option maxHeartbeats 4000000 in
theorem ac_next {G : aw_G} {c0 : va_E} {tx : Nat → Int32} {tn p k l : Nat} {lt : Int32} {st pn : Nat → Int32} {tl : List va_E} (hp : p ≤ 40) (htn : tn ≤ 40) (hch : chOK tx tn) : AM G fX4_next [.ref 1] (sW c0 tx tn p k l lt st pn tl) (qx (.inl (some (.int (hd tx p tn)))) (sW c0 tx tn p k l lt st pn tl)) := by
  refine AM_of (by decide) rfl rfl (Nat.le_of_ble_eq_true rfl) ?_
  show AW G fX4_next 0 0 (sW c0 tx tn p k l lt st pn tl) 0 [some (.ref 1)] [] _
  refine r_aload_n (pc := 0) dX4_next_0 rfl rfl ?_
  refine sg_19 (pc := 1) rfl dX4_next_1 ?_
  refine r_if_lt (pc := 4) (tgt := 42) dX4_next_4 (by decide) (fun h => absurd h (nI_pos (by omega))) (fun h4 => ?_)
  refine r_aload_n (pc := 7) dX4_next_7 rfl rfl ?_
  refine sg_19 (pc := 8) rfl dX4_next_8 ?_
  refine r_aload_n (pc := 11) dX4_next_11 rfl rfl ?_
  refine sg_15 (pc := 12) rfl dX4_next_12 ?_
  refine r_icmp_ge (pc := 15) (tgt := 42) dX4_next_15 (by decide) (fun h15 => ?_) (fun h15 => ?_)
  · refine r_iconst (pc := 42) (v := 0) dX4_next_42 (by decide) ?_
    refine r_iret (pc := 43) rfl rfl dX4_next_43 ?_
    exact ⟨by unfold hd; rw [if_neg (by have := nI_ge8 (by omega) h15 (by omega); omega)], rfl⟩
  · have hpt : p < tn := nI_lt9 (by omega) h15
    refine r_aload_n (pc := 18) dX4_next_18 rfl rfl ?_
    refine sg_19 (pc := 19) rfl dX4_next_19 ?_
    refine r_aload_n (pc := 22) dX4_next_22 rfl rfl ?_
    refine sg_9 (pc := 23) rfl dX4_next_23 ?_
    refine sl_2 (pc := 26) dX4_next_26 ?_
    refine r_icmp_ge (pc := 27) (tgt := 42) dX4_next_27 (by decide) (fun h => absurd h (nI_ge9 (by omega) (by decide))) (fun h27 => ?_)
    refine r_aload_n (pc := 30) dX4_next_30 rfl rfl ?_
    refine sg_9 (pc := 31) rfl dX4_next_31 ?_
    refine r_aload_n (pc := 34) dX4_next_34 rfl rfl ?_
    refine sg_19 (pc := 35) rfl dX4_next_35 ?_
    refine sc_2 (pc := 38) (p) ⟨rfl, by omega⟩ dX4_next_38 ?_
    refine r_goto (pc := 39) (tgt := 43) dX4_next_39 (by decide) ?_
    refine r_iret (pc := 43) rfl (hch p hpt) dX4_next_43 ?_
    exact ⟨by unfold hd; rw [if_pos hpt], rfl⟩

set_option maxRecDepth 100000 in
set_option maxHeartbeats 4000000 in
theorem ac_isDigit {G : aw_G} {w : List va_E} (x : Int32) : AM G fX4_isDigit [.int x] w (qx (.inl (some (.int (bi (isDig x))))) w) := by
  refine AM_of (by decide) rfl rfl (Nat.le_of_ble_eq_true rfl) ?_
  show AW G fX4_isDigit 0 0 w 0 [some (.int x)] [] _
  refine r_iload_n (pc := 0) dX4_isDigit_0 rfl rfl ?_
  refine r_bipush (pc := 1) (v := 48) dX4_isDigit_1 (by decide) ?_
  refine r_icmp_lt (pc := 3) (tgt := 16) dX4_isDigit_3 (by decide) (fun h3 => ?_) (fun h3 => ?_)
  · refine r_iconst (pc := 16) (v := 0) dX4_isDigit_16 (by decide) ?_
    refine r_iret (pc := 17) rfl rfl dX4_isDigit_17 ?_
    exact ⟨by rw [show isDig x = false from decide_eq_false (fun z => absurd z.1 (Int32.not_le.mpr h3))]; rfl, rfl⟩
  · refine r_iload_n (pc := 6) dX4_isDigit_6 rfl rfl ?_
    refine r_bipush (pc := 7) (v := 57) dX4_isDigit_7 (by decide) ?_
    refine r_icmp_gt (pc := 9) (tgt := 16) dX4_isDigit_9 (by decide) (fun h9 => ?_) (fun h9 => ?_)
    · refine r_iconst (pc := 16) (v := 0) dX4_isDigit_16 (by decide) ?_
      refine r_iret (pc := 17) rfl rfl dX4_isDigit_17 ?_
      exact ⟨by rw [show isDig x = false from decide_eq_false (fun z => absurd z.2 (Int32.not_le.mpr h9))]; rfl, rfl⟩
    · refine r_iconst (pc := 12) (v := 1) dX4_isDigit_12 (by decide) ?_
      refine r_goto (pc := 13) (tgt := 17) dX4_isDigit_13 (by decide) ?_
      refine r_iret (pc := 17) rfl rfl dX4_isDigit_17 ?_
      exact ⟨by rw [show isDig x = true from decide_eq_true ⟨Int32.not_lt.mp h3, Int32.not_lt.mp h9⟩]; rfl, rfl⟩

set_option maxRecDepth 100000 in
set_option maxHeartbeats 4000000 in
theorem ac_addStep {G : aw_G} {c0 : va_E} {tx : Nat → Int32} {tn p k l : Nat} {lt : Int32} {st pn : Nat → Int32} {tl : List va_E} (hk : k < 40) (x : Int32) : AM G fX4_addStep [.ref 1, .int x] (sW c0 tx tn p k l lt st pn tl) (qx (.inl none) (sW c0 tx tn p (k + 1) l lt (upd st k x) pn tl)) := by
  refine AM_of (by decide) rfl rfl (Nat.le_of_ble_eq_true rfl) ?_
  show AW G fX4_addStep 0 0 (sW c0 tx tn p k l lt st pn tl) 0 [some (.ref 1), some (.int x)] [] _
  refine r_aload_n (pc := 0) dX4_addStep_0 rfl rfl ?_
  refine sg_26 (pc := 1) rfl dX4_addStep_1 ?_
  refine r_aload_n (pc := 4) dX4_addStep_4 rfl rfl ?_
  refine sg_22 (pc := 5) rfl dX4_addStep_5 ?_
  refine sl_3 (pc := 8) dX4_addStep_8 ?_
  refine r_icmp_ge (pc := 9) (tgt := 32) dX4_addStep_9 (by decide) (fun h => absurd h (nI_ge9 hk (by decide))) (fun h9 => ?_)
  refine r_aload_n (pc := 12) dX4_addStep_12 rfl rfl ?_
  refine sg_22 (pc := 13) rfl dX4_addStep_13 ?_
  refine r_aload_n (pc := 16) dX4_addStep_16 rfl rfl ?_
  refine sg_26 (pc := 17) rfl dX4_addStep_17 ?_
  refine r_iload_n (pc := 20) dX4_addStep_20 rfl rfl ?_
  refine ss_3 (pc := 21) (k) ⟨rfl, hk⟩ dX4_addStep_21 ?_
  refine r_aload_n (pc := 22) dX4_addStep_22 rfl rfl ?_
  refine r_dup (pc := 23) dX4_addStep_23 rfl ?_
  refine sg_26 (pc := 24) rfl dX4_addStep_24 ?_
  refine r_iconst (pc := 27) (v := 1) dX4_addStep_27 (by decide) ?_
  refine r_iadd (pc := 28) dX4_addStep_28 ?_
  rw [nI_1]
  refine sp_26 (pc := 29) rfl dX4_addStep_29 ?_
  refine r_vret (pc := 32) rfl dX4_addStep_32 ?_
  exact ⟨rfl, rfl⟩

set_option maxRecDepth 100000 in
set_option maxHeartbeats 4000000 in
theorem ac_writePlain {G : aw_G} {c0 : va_E} {tx : Nat → Int32} {tn p k l : Nat} {lt : Int32} {st pn : Nat → Int32} {tl : List va_E} (hl : l < 80) (x : Int32) : AM G fX4_writePlain [.ref 1, .int x] (sW c0 tx tn p k l lt st pn tl) (qx (.inl none) (sW c0 tx tn p k (l + 1) lt st (upd pn l x) tl)) := by
  refine AM_of (by decide) rfl rfl (Nat.le_of_ble_eq_true rfl) ?_
  show AW G fX4_writePlain 0 0 (sW c0 tx tn p k l lt st pn tl) 0 [some (.ref 1), some (.int x)] [] _
  refine r_aload_n (pc := 0) dX4_writePlain_0 rfl rfl ?_
  refine sg_32 (pc := 1) rfl dX4_writePlain_1 ?_
  refine r_aload_n (pc := 4) dX4_writePlain_4 rfl rfl ?_
  refine sg_29 (pc := 5) rfl dX4_writePlain_5 ?_
  refine sl_4 (pc := 8) dX4_writePlain_8 ?_
  refine r_icmp_ge (pc := 9) (tgt := 32) dX4_writePlain_9 (by decide) (fun h => absurd h (nI_ge9 hl (by decide))) (fun h9 => ?_)
  refine r_aload_n (pc := 12) dX4_writePlain_12 rfl rfl ?_
  refine sg_29 (pc := 13) rfl dX4_writePlain_13 ?_
  refine r_aload_n (pc := 16) dX4_writePlain_16 rfl rfl ?_
  refine sg_32 (pc := 17) rfl dX4_writePlain_17 ?_
  refine r_iload_n (pc := 20) dX4_writePlain_20 rfl rfl ?_
  refine ss_4 (pc := 21) (l) ⟨rfl, hl⟩ dX4_writePlain_21 ?_
  refine r_aload_n (pc := 22) dX4_writePlain_22 rfl rfl ?_
  refine r_dup (pc := 23) dX4_writePlain_23 rfl ?_
  refine sg_32 (pc := 24) rfl dX4_writePlain_24 ?_
  refine r_iconst (pc := 27) (v := 1) dX4_writePlain_27 (by decide) ?_
  refine r_iadd (pc := 28) dX4_writePlain_28 ?_
  rw [nI_1]
  refine sp_32 (pc := 29) rfl dX4_writePlain_29 ?_
  refine r_vret (pc := 32) rfl dX4_writePlain_32 ?_
  exact ⟨rfl, rfl⟩

set_option maxRecDepth 100000 in
set_option maxHeartbeats 4000000 in
theorem ac_size {G : aw_G} {c0 : va_E} {tx : Nat → Int32} {tn p k l : Nat} {lt : Int32} {st pn : Nat → Int32} {tl : List va_E}  : AM G fX4_size [.ref 1] (sW c0 tx tn p k l lt st pn tl) (qx (.inl (some (.int (nI tn)))) (sW c0 tx tn p k l lt st pn tl)) := by
  refine AM_of (by decide) rfl rfl (Nat.le_of_ble_eq_true rfl) ?_
  show AW G fX4_size 0 0 (sW c0 tx tn p k l lt st pn tl) 0 [some (.ref 1)] [] _
  refine r_aload_n (pc := 0) dX4_size_0 rfl rfl ?_
  refine sg_15 (pc := 1) rfl dX4_size_1 ?_
  refine r_iret (pc := 4) rfl rfl dX4_size_4 ?_
  exact ⟨rfl, rfl⟩

set_option maxRecDepth 100000 in
set_option maxHeartbeats 4000000 in
theorem ac_empty {G : aw_G} {c0 : va_E} {tx : Nat → Int32} {tn p k l : Nat} {lt : Int32} {st pn : Nat → Int32} {tl : List va_E}  : AM G fX4_empty [.ref 1] (sW c0 tx tn p k l lt st pn tl) (qx (.inl none) (sW c0 tx 0 p k l lt st pn tl)) := by
  refine AM_of (by decide) rfl rfl (Nat.le_of_ble_eq_true rfl) ?_
  show AW G fX4_empty 0 0 (sW c0 tx tn p k l lt st pn tl) 0 [some (.ref 1)] [] _
  refine r_aload_n (pc := 0) dX4_empty_0 rfl rfl ?_
  refine r_iconst (pc := 1) (v := 0) dX4_empty_1 (by decide) ?_
  rw [show (0 : Int32) = nI 0 from rfl]
  refine sp_15 (pc := 2) rfl dX4_empty_2 ?_
  refine r_vret (pc := 5) rfl dX4_empty_5 ?_
  exact ⟨rfl, rfl⟩

set_option maxRecDepth 100000 in
set_option maxHeartbeats 4000000 in
theorem op_loop {G : aw_G} {c0 : va_E} {tx : Nat → Int32} {tn p k l : Nat} {lt : Int32} {st : Nat → Int32} {tl : List va_E} {pn0 : Nat → Int32} {s : Nat} (hl : l < 80) : ∀ (a : Nat) (pn : Nat → Int32), (∀ i, i < a + s → pn i = pn0 i) → (∀ i, a + s < i → i ≤ l → pn i = pn0 (i - 1)) → a + s ≤ l → AW G fX4_openPlain 0 0 (sW c0 tx tn p k l lt st pn tl) 22 [some (.ref 1), some (.int (nI s)), some (.int (nI (a + s)))] [] (fun r w' => r = .inl none ∧ ∃ pn2 : Nat → Int32, w' = (sW c0 tx tn p k (l + 1) lt st pn2 tl) ∧ (∀ i, i < s → pn2 i = pn0 i) ∧ pn2 s = 40 ∧ ∀ i, s < i → i ≤ l → pn2 i = pn0 (i - 1)) := by
  intro a
  induction a with
  | zero =>
    intro pn h1 h2 hal
    refine r_iload_n (pc := 22) dX4_openPlain_22 rfl rfl ?_
    refine r_iload_n (pc := 23) dX4_openPlain_23 rfl rfl ?_
    refine r_icmp_le (pc := 24) (tgt := 47) dX4_openPlain_24 (by decide) (fun h24 => ?_) (fun h => absurd (by rw [Nat.zero_add]; exact Int32.le_refl _) h)
    refine r_aload_n (pc := 47) dX4_openPlain_47 rfl rfl ?_
    refine sg_29 (pc := 48) rfl dX4_openPlain_48 ?_
    refine r_iload_n (pc := 51) dX4_openPlain_51 rfl rfl ?_
    refine r_bipush (pc := 52) (v := 40) dX4_openPlain_52 (by decide) ?_
    refine ss_4 (pc := 54) (s) ⟨rfl, by omega⟩ dX4_openPlain_54 ?_
    refine r_aload_n (pc := 55) dX4_openPlain_55 rfl rfl ?_
    refine r_dup (pc := 56) dX4_openPlain_56 rfl ?_
    refine sg_32 (pc := 57) rfl dX4_openPlain_57 ?_
    refine r_iconst (pc := 60) (v := 1) dX4_openPlain_60 (by decide) ?_
    refine r_iadd (pc := 61) dX4_openPlain_61 ?_
    rw [nI_1]
    refine sp_32 (pc := 62) rfl dX4_openPlain_62 ?_
    refine r_vret (pc := 65) rfl dX4_openPlain_65 ?_
    exact ⟨rfl, _, rfl, fun i hi => by rw [upd_n _ _ (by omega)]; exact h1 i (by omega), upd_s _ _ _, fun i hi hl2 => by rw [upd_n _ _ (by omega)]; exact h2 i (by omega) hl2⟩
  | succ a ih =>
    intro pn h1 h2 hal
    refine r_iload_n (pc := 22) dX4_openPlain_22 rfl rfl ?_
    refine r_iload_n (pc := 23) dX4_openPlain_23 rfl rfl ?_
    refine r_icmp_le (pc := 24) (tgt := 47) dX4_openPlain_24 (by decide) (fun h => absurd ((nI_leI (by omega) (by omega)).mp h) (by omega)) (fun h24 => ?_)
    refine r_aload_n (pc := 27) dX4_openPlain_27 rfl rfl ?_
    refine sg_29 (pc := 28) rfl dX4_openPlain_28 ?_
    refine r_iload_n (pc := 31) dX4_openPlain_31 rfl rfl ?_
    refine r_aload_n (pc := 32) dX4_openPlain_32 rfl rfl ?_
    refine sg_29 (pc := 33) rfl dX4_openPlain_33 ?_
    refine r_iload_n (pc := 36) dX4_openPlain_36 rfl rfl ?_
    refine r_iconst (pc := 37) (v := 1) dX4_openPlain_37 (by decide) ?_
    refine r_isub (pc := 38) dX4_openPlain_38 ?_
    refine sc_4 (pc := 39) (a + s) ⟨by rw [show a + 1 + s = a + s + 1 by omega]; exact nI_pred _, by omega⟩ dX4_openPlain_39 ?_
    refine ss_4 (pc := 40) (a + 1 + s) ⟨rfl, by omega⟩ dX4_openPlain_40 ?_
    refine r_iincK (pc := 41) (k9 := -1) dX4_openPlain_41 (by decide) rfl (Nat.le_of_ble_eq_true rfl) rfl ?_
    rw [show a + 1 + s = a + s + 1 by omega]
    refine r_goto (pc := 44) (tgt := 22) dX4_openPlain_44 (by decide) ?_
    rw [pk_m1]
    refine ih _ ?_ ?_ (by omega)
    · intro i hi
      rw [upd_n _ _ (by omega)]
      exact h1 i (by omega)
    · intro i h3 h4
      by_cases hi : i = a + 1 + s
      · rw [hi, show a + 1 + s = a + s + 1 by omega, upd_s, h1 _ (by omega)]
        rfl
      · rw [upd_n _ _ (by omega)]
        exact h2 i (by omega) h4
set_option maxRecDepth 100000 in
set_option maxHeartbeats 4000000 in
theorem ac_openPlain {G : aw_G} {c0 : va_E} {tx : Nat → Int32} {tn p k l : Nat} {lt : Int32} {st pn : Nat → Int32} {tl : List va_E} (hl : l < 80) {s : Nat} (hs : s ≤ l) : AM G fX4_openPlain [.ref 1, .int (nI s)] (sW c0 tx tn p k l lt st pn tl) (fun r w' => r = .inl none ∧ ∃ pn2 : Nat → Int32, w' = (sW c0 tx tn p k (l + 1) lt st pn2 tl) ∧ (∀ i, i < s → pn2 i = pn i) ∧ pn2 s = 40 ∧ ∀ i, s < i → i ≤ l → pn2 i = pn (i - 1)) := by
  refine AM_of (by decide) rfl rfl (Nat.le_of_ble_eq_true rfl) ?_
  show AW G fX4_openPlain 0 0 (sW c0 tx tn p k l lt st pn tl) 0 [some (.ref 1), some (.int (nI s)), none] [] _
  refine r_iload_n (pc := 0) dX4_openPlain_0 rfl rfl ?_
  refine r_if_lt (pc := 1) (tgt := 16) dX4_openPlain_1 (by decide) (fun h => absurd h (nI_pos (by omega))) (fun h1 => ?_)
  refine r_aload_n (pc := 4) dX4_openPlain_4 rfl rfl ?_
  refine sg_32 (pc := 5) rfl dX4_openPlain_5 ?_
  refine r_aload_n (pc := 8) dX4_openPlain_8 rfl rfl ?_
  refine sg_29 (pc := 9) rfl dX4_openPlain_9 ?_
  refine sl_4 (pc := 12) dX4_openPlain_12 ?_
  refine r_icmp_lt (pc := 13) (tgt := 17) dX4_openPlain_13 (by decide) (fun h13 => ?_) (fun h => absurd (nI_lt hl (by decide)) h)
  refine r_aload_n (pc := 17) dX4_openPlain_17 rfl rfl ?_
  refine sg_32 (pc := 18) rfl dX4_openPlain_18 ?_
  refine r_istore_n (pc := 21) dX4_openPlain_21 rfl (Nat.le_of_ble_eq_true rfl) rfl ?_
  have h9 := op_loop (G := G) (c0 := c0) (tx := tx) (tn := tn) (p := p) (k := k) (lt := lt) (st := st) (tl := tl) (pn0 := pn) (s := s) hl (l - s) pn (fun i _ => rfl) (fun i a b => absurd b (by omega)) (by omega)
  rw [show l - s + s = l by omega] at h9
  exact h9

theorem arow_up {f : Nat → Int32} {r : List Int32} {x : Int32} (h : arow f r) {n : Nat} (hn : n = r.length) : arow (upd f n x) (r ++ [x]) := hn ▸ arow_app h
theorem arow_ins {f g : Nat → Int32} {X L : List Int32} (h : arow f (X ++ L)) (h1 : ∀ i, i < X.length → g i = f i) (h2 : g X.length = 40) (h3 : ∀ i, X.length < i → i ≤ (X ++ L).length → g i = f (i - 1)) : arow g (X ++ (40 :: L)) := by
  intro i x hx
  rcases Nat.lt_trichotomy i X.length with z | z | z
  · rw [List.getElem?_append_left z] at hx
    rw [h1 i z]
    exact h i x (by rw [List.getElem?_append_left z]; exact hx)
  · subst z
    rw [List.getElem?_append_right (Nat.le_refl _), Nat.sub_self] at hx
    rw [h2]
    exact Option.some.inj hx
  · rw [List.getElem?_append_right (by omega)] at hx
    obtain ⟨j, hj⟩ : ∃ j, i - X.length = j + 1 := ⟨i - X.length - 1, by omega⟩
    rw [hj, List.getElem?_cons_succ] at hx
    have hjl := (List.getElem?_eq_some_iff.mp hx).1
    rw [h3 i z (by simp; omega)]
    refine h (i - 1) x ?_
    rw [List.getElem?_append_right (by omega), show i - 1 - X.length = j by omega]
    exact hx
end S1
