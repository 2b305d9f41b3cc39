/-! ===== sets as the bits of a number (the family bt out of kit/laws/BITS.to-paste) ===== -/
def bt (x : Int32) (i : Nat) : Bool := x.toBitVec.getLsbD i
theorem b_ext {x y : Int32} (h : ∀ i, i < 32 → bt x i = bt y i) : x = y := Int32.toBitVec_inj.mp (BitVec.eq_of_getLsbD_eq (fun i hi => h i hi))
theorem b_or (x y : Int32) (i : Nat) : bt (x ||| y) i = (bt x i || bt y i) := by unfold bt; rw [Int32.toBitVec_or, BitVec.getLsbD_or]
theorem b_and (x y : Int32) (i : Nat) : bt (x &&& y) i = (bt x i && bt y i) := by unfold bt; rw [Int32.toBitVec_and, BitVec.getLsbD_and]
theorem b_xor (x y : Int32) (i : Nat) : bt (x ^^^ y) i = (bt x i ^^ bt y i) := by unfold bt; rw [Int32.toBitVec_xor, BitVec.getLsbD_xor]
theorem b_big {x : Int32} {i : Nat} (h : 32 ≤ i) : bt x i = false := BitVec.getLsbD_of_ge _ _ h
theorem b_255 (i : Nat) : bt 255 i = decide (i < 8) := by
  rcases Nat.lt_or_ge i 32 with h | h
  · exact (by decide +kernel : ∀ i, i < 32 → bt 255 i = decide (i < 8)) i h
  · rw [b_big h, decide_eq_false (by omega)]
theorem b_65535 (i : Nat) : bt 65535 i = decide (i < 16) := by
  rcases Nat.lt_or_ge i 32 with h | h
  · exact (by decide +kernel : ∀ i, i < 32 → bt 65535 i = decide (i < 16)) i h
  · rw [b_big h, decide_eq_false (by omega)]
theorem b_m1 : ∀ i, i < 32 → bt (-1) i = true := by decide +kernel
theorem b_0 (i : Nat) : bt 0 i = false := BitVec.getLsbD_zero
theorem s_l : ∀ n, n < 32 → ((nI n &&& 31).toBitVec.smod 32).toNat = n := by decide +kernel
theorem s_u : ∀ n, n < 32 → (((nI n).toUInt32 &&& Int32.toUInt32 31).toBitVec % 32).toNat = n := by decide +kernel
theorem b_shl (n : Nat) (hn : n < 32) (x : Int32) {i : Nat} (hi : i < 32) : bt (x <<< (nI n &&& 31)) i = (decide (n ≤ i) && bt x (i - n)) := by
  unfold bt
  rw [Int32.toBitVec_shiftLeft]
  show (x.toBitVec <<< ((nI n &&& 31).toBitVec.smod 32).toNat).getLsbD i = _
  rw [s_l n hn, BitVec.getLsbD_shiftLeft]
  rcases Nat.lt_or_ge i n with h | h
  · simp [h, Nat.not_le.mpr h]
  · simp [hi, h, Nat.not_lt.mpr h]
theorem b_ushr (n : Nat) (hn : n < 32) (x : Int32) (i : Nat) : bt ((x.toUInt32 >>> ((nI n).toUInt32 &&& Int32.toUInt32 31)).toInt32) i = bt x (n + i) := by
  show (x.toUInt32 >>> ((nI n).toUInt32 &&& Int32.toUInt32 31)).toBitVec.getLsbD i = x.toUInt32.toBitVec.getLsbD (n + i)
  rw [UInt32.toBitVec_shiftRight]
  show (x.toUInt32.toBitVec >>> (((nI n).toUInt32 &&& Int32.toUInt32 31).toBitVec % 32).toNat).getLsbD i = _
  rw [s_u n hn, BitVec.getLsbD_ushiftRight]
theorem b_sshr (n : Nat) (hn : n < 32) (x : Int32) {i : Nat} (hi : i < 32) : bt (x >>> (nI n &&& 31)) i = if n + i < 32 then bt x (n + i) else bt x 31 := by
  unfold bt
  rw [Int32.toBitVec_shiftRight]
  show (x.toBitVec.sshiftRight ((nI n &&& 31).toBitVec.smod 32).toNat).getLsbD i = _
  rw [s_l n hn, BitVec.getLsbD_sshiftRight, BitVec.msb_eq_getLsbD_last]
  simp [hi]

theorem bt_1 (i : Nat) : bt 1 i = decide (i = 0) := by
  rcases Nat.lt_or_ge i 32 with h | h
  · exact (by decide +kernel : ∀ i, i < 32 → bt 1 i = decide (i = 0)) i h
  · rw [b_big h, decide_eq_false (by omega)]
theorem bt_b1 {k : Nat} (hk : k < 32) {i : Nat} (hi : i < 32) : bt (b1 k) i = decide (i = k) := by
  unfold b1
  rw [b_shl k hk 1 hi, bt_1]
  by_cases h : i = k
  · subst h; simp
  · by_cases h2 : k ≤ i
    · rw [decide_eq_true h2, Bool.true_and, decide_eq_false (by omega), decide_eq_false h]
    · rw [decide_eq_false h2, Bool.false_and, decide_eq_false h]
theorem bitI_bt {x : Int32} {k : Nat} (hk : k < 32) : bitI x k = bt x k := by
  unfold bitI
  have h1 : (x >>> (nI k &&& 31)) &&& 1 = if bt x k = true then 1 else 0 := by
    apply b_ext
    intro i hi
    rw [b_and, bt_1, b_sshr k hk x hi]
    by_cases h0 : i = 0
    · subst h0
      rw [Nat.add_zero, if_pos hk, decide_eq_true rfl, Bool.and_true]
      cases hb : bt x k with
      | true => rw [if_pos rfl, bt_1]; rfl
      | false => rw [if_neg (by decide), b_0]
    · rw [decide_eq_false h0, Bool.and_false]
      split
      · rw [bt_1, decide_eq_false h0]
      · rw [b_0]
  rw [h1]
  cases hb : bt x k with
  | true => rfl
  | false => rfl
theorem bitI_or {x y : Int32} {k : Nat} (hk : k < 32) : bitI (x ||| y) k = (bitI x k || bitI y k) := by
  rw [bitI_bt hk, bitI_bt hk, bitI_bt hk, b_or]
theorem bitI_b1 {k j : Nat} (hk : k < 32) (hj : j < 32) : bitI (b1 k) j = decide (j = k) := by rw [bitI_bt hj, bt_b1 hk hj]
theorem bitI_0 {k : Nat} (hk : k < 32) : bitI 0 k = false := by rw [bitI_bt hk, b_0]
theorem b_not (x : Int32) {i : Nat} (hi : i < 32) : bt (x ^^^ (-1)) i = !bt x i := by rw [b_xor, b_m1 i hi, Bool.xor_true]
theorem bitI_clr {x : Int32} {k j : Nat} (hk : k < 32) (hj : j < 32) : bitI (x &&& (b1 k ^^^ (-1))) j = (bitI x j && !decide (j = k)) := by
  rw [bitI_bt hj, bitI_bt hj, b_and, b_not _ hj, bt_b1 hk hj]
