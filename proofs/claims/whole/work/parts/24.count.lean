/-! Long.bitCount: bytes -/
theorem and_split {a b x y : Nat} (ha : a < 256) (hx : x < 256) : (a + 256 * b) &&& (x + 256 * y) = (a &&& x) + 256 * (b &&& y) := by
  have hax : a &&& x < 256 := Nat.lt_of_le_of_lt Nat.and_le_left ha
  apply Nat.eq_of_testBit_eq
  intro i
  rw [Nat.testBit_and, Nat.add_comm a, Nat.add_comm x, Nat.add_comm (a &&& x), show (256 : Nat) = 2 ^ 8 from rfl, Nat.testBit_two_pow_mul_add b ha, Nat.testBit_two_pow_mul_add y hx, Nat.testBit_two_pow_mul_add (b &&& y) hax]
  split
  · rw [Nat.testBit_and]
  · rw [Nat.testBit_and]
def pop8 (b : Nat) : Nat := cntB (fun t => b.testBit t) 8
def al1 (m x : Nat) : Nat := x - (x / 2 &&& m)
def al2 (m x : Nat) : Nat := (x &&& m) + (x / 4 &&& m)
def al3 (m x : Nat) : Nat := (x + x / 16) &&& m
def rep (b : Nat) : Nat → Nat
  | 0 => 0
  | k + 1 => b + 256 * rep b k
theorem b1 : ∀ b, b < 256 → ∀ r, r < 2 → ((b / 2 + 128 * r) &&& 85 = (b / 2 &&& 85) ∧ (b / 2 &&& 85) ≤ b ∧ b - (b / 2 &&& 85) < 256) := by decide +kernel
theorem b2 : ∀ b, b < 256 → ∀ r, r < 4 → ((b / 4 + 64 * r) &&& 51 = (b / 4 &&& 51)) := by decide +kernel
def y8 (b : Nat) : Nat := al2 51 (al1 85 b)
theorem b3 : ∀ b, b < 256 → y8 b ≤ 68 ∧ y8 b % 16 ≤ 4 ∧ al3 15 (y8 b) = pop8 b := by decide +kernel
theorem b4 : ∀ b, b < 69 → ∀ r, r < 5 → ((b + b / 16 + 16 * r) &&& 15 = (b + b / 16) &&& 15) := by decide +kernel
theorem al1_r {b r m : Nat} (hb : b < 256) : al1 (85 + 256 * m) (b + 256 * r) = al1 85 b + 256 * al1 m r := by
  have h1 := b1 b hb (r % 2) (Nat.mod_lt _ (by decide))
  have h2 : r / 2 &&& m ≤ r / 2 := Nat.and_le_left
  have h3 : (b + 256 * r) / 2 = (b / 2 + 128 * (r % 2)) + 256 * (r / 2) := by omega
  simp only [al1]
  rw [h3, and_split (by omega) (by decide), h1.1]
  omega
theorem al2_r {b r m : Nat} (hb : b < 256) : al2 (51 + 256 * m) (b + 256 * r) = al2 51 b + 256 * al2 m r := by
  have h1 := b2 b hb (r % 4) (Nat.mod_lt _ (by decide))
  have h3 : (b + 256 * r) / 4 = (b / 4 + 64 * (r % 4)) + 256 * (r / 4) := by omega
  simp only [al2]
  rw [h3, and_split hb (by decide), and_split (by omega) (by decide), h1]
  omega
theorem al3_r {b r m : Nat} (hb : b ≤ 68) (hr : r % 16 ≤ 4) : al3 (15 + 256 * m) (b + 256 * r) = al3 15 b + 256 * al3 m r := by
  have h1 := b4 b (by omega) (r % 16) (by omega)
  have h3 : b + 256 * r + (b + 256 * r) / 16 = (b + b / 16 + 16 * (r % 16)) + 256 * (r + r / 16) := by omega
  simp only [al3]
  rw [h3, and_split (by omega) (by decide), h1]
def popS : Nat → Nat → Nat
  | 0, _ => 0
  | k + 1, x => pop8 (x % 256) + 256 * popS k (x / 256)
def yS : Nat → Nat → Nat
  | 0, _ => 0
  | k + 1, x => y8 (x % 256) + 256 * yS k (x / 256)
theorem al12 : ∀ k x, x < 256 ^ k → al2 (rep 51 k) (al1 (rep 85 k) x) = yS k x := by
  intro k
  induction k with
  | zero => intro x hx; have : x = 0 := by omega
            subst this; rfl
  | succ k ih =>
    intro x hx
    have hx2 : x / 256 < 256 ^ k := Nat.div_lt_of_lt_mul (by rw [Nat.pow_succ, Nat.mul_comm] at hx; exact hx)
    have e : x = x % 256 + 256 * (x / 256) := by omega
    have hb := b1 (x % 256) (Nat.mod_lt _ (by decide)) 0 (by decide)
    show al2 (51 + 256 * rep 51 k) (al1 (85 + 256 * rep 85 k) x) = _
    rw [show al1 (85 + 256 * rep 85 k) x = al1 85 (x % 256) + 256 * al1 (rep 85 k) (x / 256) by conv => { lhs; rw [e] }; exact al1_r (Nat.mod_lt _ (by decide)), al2_r (show al1 85 (x % 256) < 256 from hb.2.2), ih _ hx2]
    rfl
theorem al123 : ∀ k x, x < 256 ^ k → al3 (rep 15 k) (yS k x) = popS k x := by
  intro k
  induction k with
  | zero => intro x hx; simp [al3, rep, yS, popS]
  | succ k ih =>
    intro x hx
    have hx2 : x / 256 < 256 ^ k := Nat.div_lt_of_lt_mul (by rw [Nat.pow_succ, Nat.mul_comm] at hx; exact hx)
    have hb := b3 (x % 256) (Nat.mod_lt _ (by decide))
    have hr : yS k (x / 256) % 16 ≤ 4 := by
      cases k with
      | zero => exact Nat.zero_le _
      | succ k =>
        have h9 := b3 (x / 256 % 256) (Nat.mod_lt _ (by decide))
        show (y8 (x / 256 % 256) + 256 * yS k (x / 256 / 256)) % 16 ≤ 4
        omega
    show al3 (15 + 256 * rep 15 k) (y8 (x % 256) + 256 * yS k (x / 256)) = _
    rw [al3_r hb.1 hr, ih _ hx2, hb.2.2]
    rfl
