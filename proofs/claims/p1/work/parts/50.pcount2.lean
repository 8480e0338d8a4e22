/-! pcount2: the counts of the bytes -/
def r2 (r : Nat) : Nat := ((r - ((r / 2) &&& 85)) &&& 51) + (((r - ((r / 2) &&& 85)) / 4) &&& 51)
def bc (r : Nat) : Nat := cnt (fun i => r.testBit i) 8
theorem r2_facts : ∀ r, r < 256 → r2 r ≤ 68 ∧ r2 r % 16 ≤ 4 ∧ (r2 r + r2 r / 16) % 16 = bc r ∧ bc r ≤ 8 := by decide +kernel
def dS : Nat → Nat → Nat
  | 0, _ => 0
  | k + 1, V => 256 * dS k (V / 256) + bc (V % 256)
theorem g12_step {k q r : Nat} (hr : r < 256) : g2 (k + 1) (g1 (k + 1) (256 * q + r)) = 256 * g2 k (g1 k q) + r2 r := by
  rw [g1_step hr, g2_step (Nat.lt_of_le_of_lt (Nat.sub_le _ _) hr)]
  rfl
theorem dS_spec : ∀ (k V : Nat), g2 k (g1 k V) % 16 ≤ 4 ∧ g3 k (g2 k (g1 k V)) = dS k V
  | 0, V => by
    have h0 : g2 0 (g1 0 V) = 0 := by
      show (g1 0 V &&& 0) + ((g1 0 V / 4) &&& 0) = 0
      rw [Nat.and_zero, Nat.and_zero]
    rw [h0]
    exact ⟨by omega, rfl⟩
  | k + 1, V => by
    have hV : V = 256 * (V / 256) + V % 256 := by omega
    have hr : V % 256 < 256 := Nat.mod_lt _ (by omega)
    obtain ⟨f1, f2, f3, f4⟩ := r2_facts _ hr
    obtain ⟨i1, i2⟩ := dS_spec k (V / 256)
    have e : g2 (k + 1) (g1 (k + 1) V) = 256 * g2 k (g1 k (V / 256)) + r2 (V % 256) := by
      conv => lhs; rw [hV]
      exact g12_step hr
    rw [e]
    refine ⟨by rw [show 256 * g2 k (g1 k (V / 256)) = 16 * (16 * g2 k (g1 k (V / 256))) by omega, Nat.mul_add_mod]; exact f2, ?_⟩
    rw [g3_step f1 i1, i2, f3]
    rfl
theorem sum8 {a b c d e f g h T : Nat} (ha : a ≤ 8) (hb : b ≤ 8) (hc : c ≤ 8) (hd : d ≤ 8) (he : e ≤ 8) (hf : f ≤ 8) (hg : g ≤ 8) (hh : h ≤ 8) (hT : T = a + 256 * (b + 256 * (c + 256 * (d + 256 * (e + 256 * (f + 256 * (g + 256 * h))))))) :
    (T + T / 256 + (T + T / 256) / 65536 + (T + T / 256 + (T + T / 256) / 65536) / 4294967296) % 128 = a + b + c + d + e + f + g + h := by
  have h1 : T / 256 = b + 256 * (c + 256 * (d + 256 * (e + 256 * (f + 256 * (g + 256 * h))))) := by
    rw [hT, Nat.add_mul_div_left _ _ (by omega), Nat.div_eq_of_lt (by omega), Nat.zero_add]
  generalize hS : T + T / 256 = S
  have hS2 : S = ((a + b) + 256 * (b + c)) + 65536 * ((c + d) + 256 * ((d + e) + 256 * ((e + f) + 256 * ((f + g) + 256 * ((g + h) + 256 * h))))) := by
    rw [← hS, h1, hT]; omega
  have h2 : S / 65536 = (c + d) + 256 * ((d + e) + 256 * ((e + f) + 256 * ((f + g) + 256 * ((g + h) + 256 * h)))) := by
    rw [hS2, Nat.add_mul_div_left _ _ (by omega), Nat.div_eq_of_lt (by omega), Nat.zero_add]
  generalize hU : S + S / 65536 = U
  have hU2 : U = ((a + b + c + d) + 256 * ((b + c + d + e) + 256 * ((c + d + e + f) + 256 * (d + e + f + g)))) + 4294967296 * ((e + f + g + h) + 256 * ((f + g + h) + 256 * ((g + h) + 256 * h))) := by
    rw [← hU, h2, hS2]; omega
  have h3 : U / 4294967296 = (e + f + g + h) + 256 * ((f + g + h) + 256 * ((g + h) + 256 * h)) := by
    rw [hU2, Nat.add_mul_div_left _ _ (by omega), Nat.div_eq_of_lt (by omega), Nat.zero_add]
  generalize hA : (b + c + d + e) + 256 * ((c + d + e + f) + 256 * (d + e + f + g)) = A1 at hU2
  generalize hC : (f + g + h) + 256 * ((g + h) + 256 * h) = C1 at hU2 h3
  rw [h3, hU2]
  clear hA hC hU2 h3 h2 hS2 h1 hU hS hT
  rw [show (a + b + c + d + 256 * A1 + 4294967296 * (e + f + g + h + 256 * C1) + (e + f + g + h + 256 * C1)) = (a + b + c + d + e + f + g + h) + 128 * (2 * A1 + 33554432 * (e + f + g + h + 256 * C1) + 2 * C1) by omega, Nat.add_mul_mod_self_left, Nat.mod_eq_of_lt (by omega)]
