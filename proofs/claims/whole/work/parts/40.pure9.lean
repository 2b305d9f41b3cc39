/-! ===== plain words: a text read by descent, and what the reference's scan and its row then are ===== -/
theorem rdN_len : ∀ (cs : List Int32) (n : Int32), (rdN n cs).2.length ≤ cs.length
  | [], _ => Nat.le_refl _
  | c :: cs, n => by
    unfold rdN
    split
    · exact Nat.le_succ_of_le (rdN_len cs _)
    · exact Nat.le_refl _
theorem lr_fuel : ∀ (n m : Nat) (cs r s : List Int32), cs.length ≤ n → cs.length ≤ m → lr n cs r s = lr m cs r s := by
  intro n
  induction n with
  | zero =>
    intro m cs r s h1 h2
    have : cs = [] := List.length_eq_zero_iff.mp (by omega)
    subst this
    cases m <;> rfl
  | succ n ih =>
    intro m cs r s h1 h2
    cases cs with
    | nil => cases m <;> rfl
    | cons c cs =>
      cases m with
      | zero => simp at h2
      | succ m =>
        simp at h1 h2
        have e1 : ∀ (x : Int32) (r s : List Int32), lr n (rdN x cs).2 r s = lr m (rdN x cs).2 r s := fun x r s => ih m _ r s (Nat.le_trans (rdN_len cs x) h1) (Nat.le_trans (rdN_len cs x) h2)
        have e2 : ∀ (r s : List Int32), lr n cs r s = lr m cs r s := fun r s => ih m cs r s h1 h2
        rw [lr, lr]
        simp only [e1, e2]
def LR (cs r s : List Int32) : Option (List Int32) := lr cs.length cs r s
theorem LR_lr {n : Nat} {cs r s : List Int32} (h : cs.length ≤ n) : lr n cs r s = LR cs r s := lr_fuel n _ cs r s h (Nat.le_refl _)
-- ranks as numbers
def rkN (c : Int32) : Nat := if c = 42 then 5 else if c = 43 ∨ c = 45 then 4 else if c = 60 ∨ c = 61 ∨ c = 62 then 3 else if c = 38 then 2 else if c = 124 then 1 else 0
theorem rk_N (c : Int32) : rk c = nI (rkN c) := by
  unfold rk rkN
  repeat' split
  all_goals rfl
theorem rkN_le (c : Int32) : rkN c ≤ 5 := by
  unfold rkN
  repeat' split
  all_goals decide
theorem rkN_pos {c : Int32} (h : 0 < rkN c) : c = 42 ∨ c = 43 ∨ c = 45 ∨ c = 60 ∨ c = 61 ∨ c = 62 ∨ c = 38 ∨ c = 124 := by
  unfold rkN at h
  repeat' split at h
  · left; assumption
  · rename_i h2; rcases h2 with h2 | h2 <;> simp [h2]
  · rename_i h2; rcases h2 with h2 | h2 | h2 <;> simp [h2]
  · rename_i h2; simp [h2]
  · rename_i h2; simp [h2]
  · cases h
theorem rkN_cls {c : Int32} (h : 0 < rkN c) : isDig c = false ∧ isLet c = false ∧ c ≠ 40 ∧ c ≠ 41 ∧ c ≠ 33 ∧ ¬ (2000 + c < 2000) ∧ ¬ (2000 + c = 2033) ∧ ((0 : Int32) ≤ 2000 + c ∧ 2000 + c ≤ 2200) := by
  rcases rkN_pos h with rfl | rfl | rfl | rfl | rfl | rfl | rfl | rfl <;> decide
theorem rk_lt {x y : Int32} : rk x < rk y ↔ rkN x < rkN y := by
  rw [rk_N, rk_N]
  exact nI_ltI (by have := rkN_le x; omega) (by have := rkN_le y; omega)
theorem rk_pos {x : Int32} : (0 : Int32) < rk x ↔ 0 < rkN x := by
  rw [rk_N, show (0 : Int32) = nI 0 from rfl]
  exact nI_ltI (by decide) (by have := rkN_le x; omega)
theorem rk_n0 {x : Int32} : ¬ rk x < 0 := by rw [rk_N]; exact nI_pos (by have := rkN_le x; omega)
-- the row's steps
theorem LR_nil (r s : List Int32) : LR [] r s = some (lyS 0 r s).1 := rfl
theorem LR_sg {c : Int32} (h : 0 < rkN c) (t r s : List Int32) : LR (c :: t) r s = LR t (lyS (rk c) r s).1 (c :: (lyS (rk c) r s).2) := by
  have q := rkN_cls h
  show lr (t.length + 1) (c :: t) r s = _
  rw [lr, if_neg (by rw [q.1]; decide), if_neg (by rw [q.2.1]; decide), if_neg q.2.2.2.1, if_pos (rk_pos.mpr h)]
  rfl
theorem LR_41 (t r : List Int32) {s s1 : List Int32} {x : Int32} (h : (lyS 0 r s).2 = x :: s1) : LR (41 :: t) r s = LR t (lyB (lyS 0 r s).1 s1).1 (lyB (lyS 0 r s).1 s1).2 := by
  show lr (t.length + 1) (41 :: t) r s = _
  rw [lr, if_neg (by decide), if_neg (by decide), if_pos rfl, h]
  rfl
theorem LR_op {c : Int32} (h : c = 33 ∨ c = 40) (t r s : List Int32) : LR (c :: t) r s = LR t r (c :: s) := by
  show lr (t.length + 1) (c :: t) r s = _
  rcases h with rfl | rfl
  · rw [lr, if_neg (by decide), if_neg (by decide), if_neg (by decide), if_neg (by decide)]; rfl
  · rw [lr, if_neg (by decide), if_neg (by decide), if_neg (by decide), if_neg (by decide)]; rfl
theorem LR_let {c : Int32} (h1 : isDig c = false) (h2 : isLet c = true) (t r s : List Int32) : LR (c :: t) r s = LR t (lyB (r ++ [1000 + c - 97]) s).1 (lyB (r ++ [1000 + c - 97]) s).2 := by
  show lr (t.length + 1) (c :: t) r s = _
  rw [lr, if_neg (by rw [h1]; decide), if_pos h2]
  rfl
theorem LR_dig {c : Int32} (h1 : isDig c = true) (t r s : List Int32) : LR (c :: t) r s = LR (rdN (c - 48) t).2 (lyB (r ++ [(rdN (c - 48) t).1]) s).1 (lyB (r ++ [(rdN (c - 48) t).1]) s).2 := by
  show lr (t.length + 1) (c :: t) r s = _
  rw [lr, if_pos h1]
  exact LR_lr (rdN_len _ _)
-- the descent
def cN : Nat → Int32 → List Int32 → Int32 × List Int32
  | 0, q, cs => (q, cs)
  | _ + 1, q, [] => (q, [])
  | m + 1, q, c :: t => if isDig c = true ∧ 0 < q then cN m (q * 10 + (c - 48)) t else (q, c :: t)
def cLoop (f : List Int32 → Bool × List Int32 × List Int32) (lv : Nat) : Nat → List Int32 → List Int32 → Bool × List Int32 × List Int32
  | 0, cs, seg => (true, cs, seg)
  | _ + 1, [], seg => (true, [], seg)
  | m + 1, c :: t, seg => if rkN c = lv + 1 then (if (f t).1 = true then cLoop f lv m (f t).2.1 (seg ++ (f t).2.2 ++ [2000 + c]) else (false, (f t).2.1, [])) else (true, c :: t, seg)
def cLv (f : List Int32 → Bool × List Int32 × List Int32) (lv most : Nat) (cs : List Int32) : Bool × List Int32 × List Int32 := if (f cs).1 = true then cLoop f lv most (f cs).2.1 (f cs).2.2 else (false, (f cs).2.1, [])
def cL0 (f : List Int32 → Bool × List Int32 × List Int32) : List Int32 → Bool × List Int32 × List Int32 := cLv (cLv (cLv (cLv (cLv f 4 40) 3 40) 2 1) 1 40) 0 40
def cNot (x : Bool × List Int32 × List Int32) : Bool × List Int32 × List Int32 := if x.1 = true then (true, x.2.1, x.2.2 ++ [2033]) else (false, x.2.1, [])
def cBr (x : Bool × List Int32 × List Int32) : Bool × List Int32 × List Int32 := if x.1 = true ∧ x.2.1.head? = some 41 then (true, x.2.1.tail, x.2.2) else (false, x.2.1, [])
def cFs (i : Option (List Int32 → Bool × List Int32 × List Int32)) : List Int32 → Bool × List Int32 × List Int32
  | [] => (false, [], [])
  | c :: t =>
    if isDig c = true then (true, (cN 2 (c - 48) t).2, [(cN 2 (c - 48) t).1])
    else if isLet c = true then (true, t, [1000 + c - 97])
    else match i with
      | none => (false, c :: t, [])
      | some f => if c = 33 then cNot (f t) else if c = 40 then cBr (cL0 f t) else (false, c :: t, [])
def cF : Nat → List Int32 → Bool × List Int32 × List Int32
  | 0 => cFs none
  | o + 1 => cFs (some (cF o))
-- what is said of a part
def segOK (n : Nat) (seg : List Int32) : Prop := 0 < n ∧ blk seg ∧ okL seg ∧ seg.length ≤ n ∧ (plS seg).length + 1 ≤ 2 * n
def stO (lv : Nat) (rest : List Int32) (h : Bool) : Prop := ∀ (c : Int32) (t : List Int32), rest = c :: t → rkN c < lv + 1 ∨ (rkN c = 3 ∧ h = true)
def flu (lv : Nat) (rest : List Int32) : Prop := ∀ (c : Int32) (t : List Int32), rest = c :: t → isDig c = false ∧ (c = 41 ∨ (0 < rkN c ∧ rkN c ≤ lv + 1))
def bnd (lv : Nat) (s : List Int32) : Prop := ∀ (x : Int32) (t : List Int32), s = x :: t → x = 40 ∨ (0 < rkN x ∧ rkN x ≤ lv)
def fOK (lv o : Nat) (f : List Int32 → Bool × List Int32 × List Int32) : Prop := ∀ cs : List Int32, cs.length ≤ 40 → ∃ n, n + (f cs).2.1.length = cs.length ∧
  ((f cs).1 = false → ∀ (k : Nat) (os : List Int32) (rh : Bool) (rt : List Bool), os.length + o = 6 → endF os = os → (lv ≤ 2 → rh = false) → pe cs k true (-1) os (rh :: rt) = nI (k + n)) ∧
  ((f cs).1 = true → segOK n (f cs).2.2 ∧
    (∀ (os : List Int32) (rh : Bool) (rt : List Bool), os.length + o = 6 → endF os = os → (lv ≤ 2 → rh = false) → ∃ rh' : Bool, stO lv (f cs).2.1 rh' ∧ (3 ≤ lv → rh' = rh) ∧ ∀ k : Nat, pe cs k true (-1) os (rh :: rt) = pe (f cs).2.1 (k + n) false (-1) os (rh' :: rt)) ∧
    ∀ (r s : List Int32), bnd lv s → flu lv (f cs).2.1 → LR cs r s = LR (f cs).2.1 (r ++ (f cs).2.2) s)
def facOK (o : Nat) (f : List Int32 → Bool × List Int32 × List Int32) : Prop := ∀ cs : List Int32, cs.length ≤ 40 → ∃ n, n + (f cs).2.1.length = cs.length ∧
  ((f cs).1 = false → ∀ (k : Nat) (os : List Int32) (rh : Bool) (rt : List Bool), os.length + o = 6 → pe cs k true (-1) os (rh :: rt) = nI (k + n)) ∧
  ((f cs).1 = true → segOK n (f cs).2.2 ∧
    (∀ (os : List Int32) (rh : Bool) (rt : List Bool), os.length + o = 6 → ∀ k : Nat, pe cs k true (-1) os (rh :: rt) = pe (f cs).2.1 (k + n) false (-1) (endF os) (rh :: rt)) ∧
    ∀ (r s : List Int32), (∀ (c : Int32) (t : List Int32), (f cs).2.1 = c :: t → isDig c = false) → LR cs r s = LR (f cs).2.1 (lyB (r ++ (f cs).2.2) s).1 (lyB (r ++ (f cs).2.2) s).2)
theorem lyB_bnd {lv : Nat} {s : List Int32} (h : bnd lv s) (r : List Int32) : lyB r s = (r, s) := by
  cases s with
  | nil => rfl
  | cons x t =>
    rw [lyB, if_neg ?_]
    intro z
    rcases h x t rfl with h | h
    · rw [z] at h; exact absurd h (by decide)
    · exact (rkN_cls h.1).2.2.2.2.1 z
theorem lyS_bnd {lv : Nat} {s : List Int32} {c : Int32} (h : bnd lv s) (hc : lv < rkN c) (r : List Int32) : lyS (rk c) r s = (r, s) := by
  cases s with
  | nil => rfl
  | cons x t =>
    rw [lyS, if_pos ?_]
    rcases h x t rfl with h | h
    · exact Or.inl h
    · exact Or.inr (rk_lt.mpr (by omega))
theorem fOK_of {o : Nat} {f : List Int32 → Bool × List Int32 × List Int32} (h : facOK o f) : fOK 5 o f := by
  intro cs hl
  obtain ⟨n, h1, h2, h3⟩ := h cs hl
  refine ⟨n, h1, fun e k os rh rt a b c => h2 e k os rh rt a, fun e => ?_⟩
  obtain ⟨a1, a2, a3⟩ := h3 e
  refine ⟨a1, fun os rh rt a b c => ⟨rh, fun c t _ => Or.inl (by have := rkN_le c; omega), fun _ => rfl, fun k => by rw [a2 os rh rt a k, b]⟩, fun r s hb hf => ?_⟩
  rw [a3 r s (fun c t z => (hf c t z).1), lyB_bnd hb]
theorem flush {lv : Nat} {rest : List Int32} {c : Int32} (hf : flu lv rest) (hc : rkN c = lv + 1) (R s : List Int32) : LR rest R (c :: s) = LR rest (R ++ [2000 + c]) s := by
  have hc0 : c ≠ 40 := (rkN_cls (by omega)).2.2.1
  cases rest with
  | nil =>
    rw [LR_nil, LR_nil, lyS, if_neg (fun z => z.elim hc0 rk_n0)]
  | cons d t =>
    have h0 : lyS 0 R (c :: s) = lyS 0 (R ++ [2000 + c]) s := by rw [lyS, if_neg (fun z => z.elim hc0 rk_n0)]
    rcases (hf d t rfl).2 with rfl | h
    · show lr (t.length + 1) (41 :: t) R (c :: s) = lr (t.length + 1) (41 :: t) (R ++ [2000 + c]) s
      rw [lr, lr, h0, if_neg (show ¬ isDig 41 = true by decide), if_neg (show ¬ isLet 41 = true by decide), if_pos rfl, if_neg (show ¬ isDig 41 = true by decide), if_neg (show ¬ isLet 41 = true by decide), if_pos rfl]
    · rw [LR_sg h.1, LR_sg h.1, lyS, if_neg ?_]
      rintro (z | z)
      · exact hc0 z
      · have := rk_lt.mp z
        omega
theorem pe_sg {c : Int32} {k : Nat} {t os : List Int32} {rel : List Bool} {q : List Int32 × List Bool} (h1 : isDig c = false) (h41 : c ≠ 41) (hg : goesP c os rel = some q) : pe (c :: t) k false (-1) os rel = pe t (k + 1) true (-1) q.1 q.2 := by
  rw [pe, if_neg (fun z => z.1 rfl), if_neg (by decide), hg]
  show pe t (k + 1) (decide (c ≠ 41)) (-1) q.1 q.2 = _
  rw [decide_eq_true h41]
def rhN (lv : Nat) (rh : Bool) : Bool := if lv ≤ 1 then false else if lv = 2 then true else rh
theorem goes_sg {c : Int32} {lv : Nat} {os : List Int32} {rh : Bool} {rt : List Bool} (hc : rkN c = lv + 1) (hr : lv = 2 → rh = false) : goesP c os (rh :: rt) = some (os, rhN lv rh :: rt) := by
  rcases rkN_pos (c := c) (by omega) with rfl | rfl | rfl | rfl | rfl | rfl | rfl | rfl
  · have : lv = 4 := by have h : (5 : Nat) = lv + 1 := hc; omega
    subst this; rfl
  · have : lv = 3 := by have h : (4 : Nat) = lv + 1 := hc; omega
    subst this; rfl
  · have : lv = 3 := by have h : (4 : Nat) = lv + 1 := hc; omega
    subst this; rfl
  · have : lv = 2 := by have h : (3 : Nat) = lv + 1 := hc; omega
    subst this; rw [hr rfl]; rfl
  · have : lv = 2 := by have h : (3 : Nat) = lv + 1 := hc; omega
    subst this; rw [hr rfl]; rfl
  · have : lv = 2 := by have h : (3 : Nat) = lv + 1 := hc; omega
    subst this; rw [hr rfl]; rfl
  · have : lv = 1 := by have h : (2 : Nat) = lv + 1 := hc; omega
    subst this; rfl
  · have : lv = 0 := by have h : (1 : Nat) = lv + 1 := hc; omega
    subst this; rfl
theorem okL_app {a b : List Int32} (ha : okL a) (hb : okL b) : okL (a ++ b) := fun c hc => by
  rcases List.mem_append.mp hc with h | h
  · exact ha c h
  · exact hb c h
theorem okL_sg {c : Int32} (h : 0 < rkN c) : okL [2000 + c] := fun d hd => by
  rw [List.mem_singleton.mp hd]
  refine ⟨(rkN_cls h).2.2.2.2.2.2.2, fun _ h2 => absurd h2 (rkN_cls h).2.2.2.2.2.1⟩
theorem segOK_bin {n1 n2 : Nat} {a b : List Int32} {c : Int32} (ha : segOK n1 a) (hb : segOK n2 b) (hc : 0 < rkN c) : segOK (n1 + 1 + n2) (a ++ b ++ [2000 + c]) := by
  obtain ⟨a1, a2, a3, a4, a5⟩ := ha
  obtain ⟨b1, b2, b3, b4, b5⟩ := hb
  have q := rkN_cls hc
  refine ⟨by omega, blk_bin a2 b2 q.2.2.2.2.2.1 q.2.2.2.2.2.2.1, okL_app (okL_app a3 b3) (okL_sg hc), by simp; omega, ?_⟩
  rw [plS_bin a2 b2 q.2.2.2.2.2.1 q.2.2.2.2.2.2.1]
  simp
  omega
theorem segOK_not {n : Nat} {a : List Int32} (ha : segOK n a) : segOK (n + 1) (a ++ [2033]) := by
  obtain ⟨a1, a2, a3, a4, a5⟩ := ha
  refine ⟨by omega, blk_bang a2, okL_app a3 (fun d hd => ?_), by simp; omega, ?_⟩
  · rw [List.mem_singleton.mp hd]
    exact ⟨by decide, fun _ h2 => absurd h2 (by decide)⟩
  · rw [plS_bang a2]
    simp
    omega
/-- one level over the next -/
theorem loop_ok {lv o : Nat} {f : List Int32 → Bool × List Int32 × List Int32} (hlv : lv ≤ 4) (hf : fOK (lv + 1) o f) {cs : List Int32} : ∀ (m : Nat) (cs1 seg1 : List Int32) (n1 : Nat), cs1.length ≤ 40 → n1 + cs1.length = cs.length → segOK n1 seg1 → (lv ≠ 2 → cs1.length ≤ m) → (lv = 2 → m ≤ 1) →
    (∀ (os : List Int32) (rh : Bool) (rt : List Bool), os.length + o = 6 → endF os = os → (lv ≤ 2 → rh = false) → ∃ rh1 : Bool, stO (lv + 1) cs1 rh1 ∧ (3 ≤ lv → rh1 = rh) ∧ (lv = 2 → rh1 = decide (m = 0)) ∧ ∀ k : Nat, pe cs k true (-1) os (rh :: rt) = pe cs1 (k + n1) false (-1) os (rh1 :: rt)) →
    (∀ (r s : List Int32), bnd lv s → flu lv cs1 → LR cs r s = LR cs1 (r ++ seg1) s) →
    ∃ n, n + (cLoop f lv m cs1 seg1).2.1.length = cs.length ∧
      ((cLoop f lv m cs1 seg1).1 = false → ∀ (k : Nat) (os : List Int32) (rh : Bool) (rt : List Bool), os.length + o = 6 → endF os = os → (lv ≤ 2 → rh = false) → pe cs k true (-1) os (rh :: rt) = nI (k + n)) ∧
      ((cLoop f lv m cs1 seg1).1 = true → segOK n (cLoop f lv m cs1 seg1).2.2 ∧
        (∀ (os : List Int32) (rh : Bool) (rt : List Bool), os.length + o = 6 → endF os = os → (lv ≤ 2 → rh = false) → ∃ rh' : Bool, stO lv (cLoop f lv m cs1 seg1).2.1 rh' ∧ (3 ≤ lv → rh' = rh) ∧ ∀ k : Nat, pe cs k true (-1) os (rh :: rt) = pe (cLoop f lv m cs1 seg1).2.1 (k + n) false (-1) os (rh' :: rt)) ∧
        ∀ (r s : List Int32), bnd lv s → flu lv (cLoop f lv m cs1 seg1).2.1 → LR cs r s = LR (cLoop f lv m cs1 seg1).2.1 (r ++ (cLoop f lv m cs1 seg1).2.2) s) := by
  intro m
  induction m with
  | zero =>
    intro cs1 seg1 n1 hl hn hs hm hm1 hpe hlr
    refine ⟨n1, hn, fun z => (by cases z), fun _ => ⟨hs, fun os rh rt a b c => ?_, hlr⟩⟩
    obtain ⟨rh1, e1, e2, e3, e4⟩ := hpe os rh rt a b c
    refine ⟨rh1, fun d t z => ?_, e2, e4⟩
    by_cases h2 : lv = 2
    · have := e3 h2
      rcases e1 d t z with h | h
      · by_cases h3 : rkN d = 3
        · exact Or.inr ⟨h3, this⟩
        · exact Or.inl (by omega)
      · exact Or.inr h
    · have := hm h2
      have z : cs1 = d :: t := z
      rw [z] at this
      simp at this
  | succ m ih =>
    intro cs1 seg1 n1 hl hn hs hm hm1 hpe hlr
    cases cs1 with
    | nil =>
      refine ⟨n1, hn, fun z => (by cases z), fun _ => ⟨hs, fun os rh rt a b c => ?_, hlr⟩⟩
      obtain ⟨rh1, e1, e2, e3, e4⟩ := hpe os rh rt a b c
      exact ⟨rh1, fun d t z => (by cases z), e2, e4⟩
    | cons c t =>
      by_cases hc : rkN c = lv + 1
      · have q := rkN_cls (c := c) (by omega)
        obtain ⟨n2, g1, g2, g3⟩ := hf t (by simp at hl; omega)
        have step : ∀ (os : List Int32) (rh : Bool) (rt : List Bool), os.length + o = 6 → endF os = os → (lv ≤ 2 → rh = false) → ∃ rh2 : Bool, (lv + 1 ≤ 2 → rh2 = false) ∧ (3 ≤ lv → rh2 = rh) ∧ (lv = 2 → rh2 = true) ∧ ∀ k : Nat, pe cs k true (-1) os (rh :: rt) = pe t (k + n1 + 1) true (-1) os (rh2 :: rt) := by
          intro os rh rt a b c9
          obtain ⟨rh1, e1, e2, e3, e4⟩ := hpe os rh rt a b c9
          refine ⟨rhN lv rh1, fun z => if_pos (by omega), fun z => ?_, fun z => ?_, fun k => ?_⟩
          · unfold rhN; rw [if_neg (by omega), if_neg (by omega), e2 z]
          · unfold rhN; rw [if_neg (by omega), if_pos z]
          · rw [e4 k, pe_sg q.1 q.2.2.2.1 (goes_sg hc (fun z => by rw [e3 z]; exact decide_eq_false (Nat.succ_ne_zero m)))]
        rw [cLoop, if_pos hc]
        by_cases hok : (f t).1 = true
        · rw [if_pos hok]
          obtain ⟨b1, b2, b3⟩ := g3 hok
          have hn2 : 0 < n2 := b1.1
          refine ih _ _ (n1 + 1 + n2) (by simp at hl hn; omega) (by simp at hn; omega) (segOK_bin hs b1 (by omega)) (fun z => by have := hm z; simp at this; omega) (fun z => by have := hm1 z; omega) ?_ ?_
          · intro os rh rt a b c9
            obtain ⟨rh2, s1, s2, s3, s4⟩ := step os rh rt a b c9
            obtain ⟨rh', d1, d2, d3⟩ := b2 os rh2 rt a b (fun z => s1 z)
            refine ⟨rh', d1, fun z => by rw [d2 (by omega), s2 z], fun z => by rw [d2 (by omega), s3 z]; exact (decide_eq_true (by have := hm1 z; omega)).symm, fun k => ?_⟩
            rw [s4 k, d3, show k + n1 + 1 + n2 = k + (n1 + 1 + n2) by omega]
          · intro r s hb hfl
            have hfc : flu lv (c :: t) := fun d t2 z => by
              cases z
              exact ⟨q.1, Or.inr ⟨by omega, by omega⟩⟩
            rw [hlr r s hb hfc, LR_sg (by omega), lyS_bnd hb (by omega)]
            have hb2 : bnd (lv + 1) (c :: s) := fun x t2 z => by
              cases z
              exact Or.inr ⟨by omega, by omega⟩
            have hfl2 : flu (lv + 1) (f t).2.1 := fun x t2 z => ⟨(hfl x t2 z).1, (hfl x t2 z).2.imp id (fun w => ⟨w.1, by omega⟩)⟩
            rw [b3 _ _ hb2 hfl2, flush hfl hc]
            simp only [List.append_assoc]
        · rw [if_neg hok]
          refine ⟨n1 + 1 + n2, by simp at hn; show n1 + 1 + n2 + (f t).2.1.length = _; omega, fun _ k os rh rt a b c9 => ?_, fun z => (by cases z)⟩
          obtain ⟨rh2, s1, s2, s3, s4⟩ := step os rh rt a b c9
          rw [s4 k, g2 (by simpa using hok) _ os rh2 rt a b (fun z => s1 z), show k + n1 + 1 + n2 = k + (n1 + 1 + n2) by omega]
      · rw [cLoop, if_neg hc]
        refine ⟨n1, hn, fun z => (by cases z), fun _ => ⟨hs, fun os rh rt a b c9 => ?_, hlr⟩⟩
        obtain ⟨rh1, e1, e2, e3, e4⟩ := hpe os rh rt a b c9
        refine ⟨rh1, fun d t2 z => ?_, e2, e4⟩
        cases z
        rcases e1 c t rfl with h | h
        · exact Or.inl (by omega)
        · exact Or.inr h
theorem lv_ok {lv o most : Nat} {f : List Int32 → Bool × List Int32 × List Int32} (hlv : lv ≤ 4) (hm : lv ≠ 2 → most = 40) (hm2 : lv = 2 → most = 1) (hf : fOK (lv + 1) o f) : fOK lv o (cLv f lv most) := by
  intro cs hl
  obtain ⟨n, h1, h2, h3⟩ := hf cs hl
  unfold cLv
  by_cases hok : (f cs).1 = true
  · rw [if_pos hok]
    obtain ⟨a1, a2, a3⟩ := h3 hok
    refine loop_ok hlv hf most _ _ n (by omega) h1 a1 (fun z => by rw [hm z]; omega) (fun z => by rw [hm2 z]; decide) ?_ ?_
    · intro os rh rt a b c
      obtain ⟨rh', e1, e2, e3⟩ := a2 os rh rt a b (fun z => c (by omega))
      refine ⟨rh', e1, fun z => e2 (by omega), fun z => ?_, e3⟩
      rw [e2 (by omega), c (by omega), hm2 z]
      rfl
    · intro r s hb hfl
      exact a3 r s (fun x t z => (hb x t z).imp id (fun w => ⟨w.1, by omega⟩)) (fun x t z => ⟨(hfl x t z).1, (hfl x t z).2.imp id (fun w => ⟨w.1, by omega⟩)⟩)
  · rw [if_neg hok]
    exact ⟨n, h1, fun _ k os rh rt a b c => h2 (by simpa using hok) k os rh rt a b (fun z => c (by omega)), fun z => (by cases z)⟩
theorem l0_ok {o : Nat} {f : List Int32 → Bool × List Int32 × List Int32} (hf : fOK 5 o f) : fOK 0 o (cL0 f) :=
  lv_ok (by decide) (fun _ => rfl) (fun z => by cases z) (lv_ok (by decide) (fun _ => rfl) (fun z => by cases z) (lv_ok (by decide) (fun z => absurd rfl z) (fun _ => rfl) (lv_ok (by decide) (fun _ => rfl) (fun z => by cases z) (lv_ok (by decide) (fun _ => rfl) (fun z => by cases z) hf))))
