/-! Long.bitCount: bytes -/
theorem and_split {a b x y : Nat} (ha : a < 256) (hx : x < 256) : (a + 256 * b) &&& (x + 256 * y) = (a &&& x) + 256 * (b &&& y) := by
  have hax : a &&& x < 256 := Nat.lt_of_le_of_lt Nat.and_le_left ha
  apply Nat.eq_of_testBit_eq
  intro i
  rw [Nat.testBit_and, Nat.add_comm a, Nat.add_comm x, Nat.add_comm (a &&& x), show (256 : Nat) = 2 ^ 8 from rfl, Nat.testBit_two_pow_mul_add b ha, Nat.testBit_two_pow_mul_add y hx, Nat.testBit_two_pow_mul_add (b &&& y) hax]
  split
  · rw [Nat.testBit_and]
  · rw [Nat.testBit_and]
def pop8 (b : Nat) : Nat := cntB (fun t => b.testBit t) 8
def al1 (m x : Nat) : Nat := x - (x / 2 &&& m)
def al2 (m x : Nat) : Nat := (x &&& m) + (x / 4 &&& m)
def al3 (m x : Nat) : Nat := (x + x / 16) &&& m
def rep (b : Nat) : Nat → Nat
  | 0 => 0
  | k + 1 => b + 256 * rep b k
theorem b1 : ∀ b, b < 256 → ∀ r, r < 2 → ((b / 2 + 128 * r) &&& 85 = (b / 2 &&& 85) ∧ (b / 2 &&& 85) ≤ b ∧ b - (b / 2 &&& 85) < 256) := by decide +kernel
