/-! ===== plain words: publishing ===== -/
def dbZ (ty : Nat → Int32) (v f : Nat) : Bool := decide (ty (6 * (v + 1) + f) ≠ 0 ∧ ty (6 * (v + 1) + f) ≠ ty f)
def dbU (R : Nat → List Int32) (v : Nat) (drp : Int32) (f : Nat) : Nat → Nat → Bool → Bool
  | _, 0, b => b
  | k, m + 1, b => dbU R v drp f (k + 1) m (b || (bitI drp k && (decide (R (10 * (v + 1) + k) = R k) && anyE (1000 + nI f) (R (10 * (v + 1) + k)))))
def dbA (ty : Nat → Int32) (R : Nat → List Int32) (v : Nat) (drp : Int32) : Nat → Nat → Int32 → Int32
  | _, 0, s => s
  | f, m + 1, s => dbA ty R v drp (f + 1) m (s ||| (if dbU R v drp f 0 10 (dbZ ty v f) = true then b1 f else 0))
def drpU (ty : Nat → Int32) (R : Nat → List Int32) : Nat → Nat → Int32 → Int32
  | _, 0, s => s
  | k, m + 1, s => drpU ty R (k + 1) m (s ||| (if brkF ty (R k) k = true then b1 k else 0))
def pbA (ty : Nat → Int32) (R : Nat → List Int32) (vv : Nat → Nat) (drp : Int32) : Nat → Nat → (Nat → Int32) × (Nat → Int32) → (Nat → Int32) × (Nat → Int32)
  | _, 0, q => q
  | a, m + 1, q => pbA ty R vv drp (a + 1) m (if q.1 a = 1 ∨ q.1 a = 3 then (upd q.1 a (if 0 < dbA ty R (vv a) drp 0 6 (q.2 a) then 3 else q.1 a), upd q.2 a (dbA ty R (vv a) drp 0 6 (q.2 a))) else q)
def pubT (vn : Nat) (ty : Nat → Int32) (n : Nat) : Nat → Int32 := fun j => if 6 * (vn + 1) ≤ j ∧ j < 6 * (vn + 1) + n then ty (j - 6 * (vn + 1)) else ty j
def keepR (drp : Int32) (R : Nat → List Int32) (f : Nat) : List Int32 := if bitI drp f = true then [] else R f
def pubR (vn : Nat) (drp : Int32) (R : Nat → List Int32) (n : Nat) : Nat → List Int32 := fun j => if j < n then keepR drp R j else if 10 * (vn + 1) ≤ j ∧ j < 10 * (vn + 1) + n then keepR drp R (j - 10 * (vn + 1)) else R j
