/-! pcount: bytes -/
theorem and_step {a b c d : Nat} (hb : b < 256) (hd : d < 256) : (256 * a + b) &&& (256 * c + d) = 256 * (a &&& c) + (b &&& d) := by
  have h1 : (b &&& d) < 256 := Nat.lt_of_le_of_lt Nat.and_le_left hb
  apply Nat.eq_of_testBit_eq
  intro i
  rw [Nat.testBit_and]
  rw [show (256 : Nat) = 2 ^ 8 from rfl, Nat.testBit_two_pow_mul_add _ (by exact hb), Nat.testBit_two_pow_mul_add _ (by exact hd), Nat.testBit_two_pow_mul_add _ (by exact h1)]
  by_cases hi : i < 8
  · simp [hi]
  · simp [hi]
def m5 : Nat → Nat
  | 0 => 0
  | k + 1 => 256 * m5 k + 85
def m3 : Nat → Nat
  | 0 => 0
  | k + 1 => 256 * m3 k + 51
def mf : Nat → Nat
  | 0 => 0
  | k + 1 => 256 * mf k + 15
def g1 (k V : Nat) : Nat := V - ((V / 2) &&& m5 k)
def g2 (k V : Nat) : Nat := (V &&& m3 k) + ((V / 4) &&& m3 k)
def g3 (k V : Nat) : Nat := (V + V / 16) &&& mf k
theorem g1_step {k q r : Nat} (hr : r < 256) : g1 (k + 1) (256 * q + r) = 256 * g1 k q + (r - ((r / 2) &&& 85)) := by
  unfold g1
  have e : (256 * q + r) / 2 = 256 * (q / 2) + ((q % 2) * 128 + r / 2) := by omega
  have hle : q / 2 &&& m5 k ≤ q := Nat.le_trans Nat.and_le_left (Nat.div_le_self _ _)
  have hle2 : r / 2 &&& 85 ≤ r := Nat.le_trans Nat.and_le_left (Nat.div_le_self _ _)
  have hb : ((q % 2) * 128 + r / 2) &&& 85 = (r / 2) &&& 85 := by
    have : ∀ t, t < 2 → ∀ r, r < 256 → ((t * 128 + r / 2) &&& 85) = ((r / 2) &&& 85) := by decide +kernel
    exact this _ (Nat.mod_lt _ (by omega)) r hr
  rw [e]
  show 256 * q + r - ((256 * (q / 2) + ((q % 2) * 128 + r / 2)) &&& (256 * m5 k + 85)) = _
  rw [and_step (by omega) (by omega), hb]
  omega
theorem g2_step {k q r : Nat} (hr : r < 256) : g2 (k + 1) (256 * q + r) = 256 * g2 k q + ((r &&& 51) + ((r / 4) &&& 51)) := by
  unfold g2
  have e : (256 * q + r) / 4 = 256 * (q / 4) + ((q % 4) * 64 + r / 4) := by omega
  have hb : ((q % 4) * 64 + r / 4) &&& 51 = (r / 4) &&& 51 := by
    have : ∀ t, t < 4 → ∀ r, r < 256 → ((t * 64 + r / 4) &&& 51) = ((r / 4) &&& 51) := by decide +kernel
    exact this _ (Nat.mod_lt _ (by omega)) r hr
  rw [e]
  show ((256 * q + r) &&& (256 * m3 k + 51)) + ((256 * (q / 4) + ((q % 4) * 64 + r / 4)) &&& (256 * m3 k + 51)) = _
  rw [and_step hr (by omega), and_step (by omega) (by omega), hb]
  omega
theorem g3_step {k q r : Nat} (hr : r ≤ 68) (hq : q % 16 ≤ 4) : g3 (k + 1) (256 * q + r) = 256 * g3 k q + ((r + r / 16) % 16) := by
  unfold g3
  have e : 256 * q + r + (256 * q + r) / 16 = 256 * (q + q / 16) + ((q % 16) * 16 + (r + r / 16)) := by omega
  have hb : ((q % 16) * 16 + (r + r / 16)) &&& 15 = (r + r / 16) % 16 := by
    rw [show (15 : Nat) = 2 ^ 4 - 1 from rfl, Nat.and_two_pow_sub_one_eq_mod]
    omega
  rw [e]
  show (256 * (q + q / 16) + ((q % 16) * 16 + (r + r / 16))) &&& (256 * mf k + 15) = _
  rw [and_step (by omega) (by omega), hb]
