/-! pcount3: Long.bitCount counts bits -/
theorem usl_nat (x : Int64) (y : Int32) {k : Nat} (hk : (y.toInt64.toUInt64 &&& Int64.toUInt64 63).toNat % 64 = k) : (usl x y).toBitVec.toNat = x.toBitVec.toNat / 2 ^ k := by
  show (x.toUInt64 >>> (y.toInt64.toUInt64 &&& Int64.toUInt64 63)).toNat = _
  rw [UInt64.toNat_shiftRight, hk, Nat.shiftRight_eq_div_pow]
  rfl
theorem m5_8 : m5 8 = 6148914691236517205 := by decide
theorem m3_8 : m3 8 = 3689348814741910323 := by decide
theorem mf_8 : mf 8 = 1085102592571150095 := by decide
theorem c5_8 : (6148914691236517205 : Int64).toBitVec.toNat = m5 8 := by decide
theorem c3_8 : (3689348814741910323 : Int64).toBitVec.toNat = m3 8 := by decide
theorem cf_8 : (1085102592571150095 : Int64).toBitVec.toNat = mf 8 := by decide
theorem lc1_nat (x : Int64) : (lc1 x).toBitVec.toNat = g1 8 x.toBitVec.toNat := by
  have hx : x.toBitVec.toNat < 2 ^ 64 := x.toBitVec.isLt
  unfold lc1 g1
  rw [Int64.toBitVec_sub, BitVec.toNat_sub, Int64.toBitVec_and, BitVec.toNat_and, usl_nat x 1 (k := 1) (by decide), c5_8, Nat.pow_one]
  have hle : x.toBitVec.toNat / 2 &&& m5 8 ≤ x.toBitVec.toNat := Nat.le_trans Nat.and_le_left (Nat.div_le_self _ _)
  generalize x.toBitVec.toNat / 2 &&& m5 8 = a at hle
  generalize x.toBitVec.toNat = v at hle hx
  rw [show 2 ^ 64 - a + v = (v - a) + 2 ^ 64 by omega, Nat.add_mod_right, Nat.mod_eq_of_lt (by omega)]
theorem lc2_nat (x : Int64) : (lc2 x).toBitVec.toNat = g2 8 x.toBitVec.toNat := by
  unfold lc2 g2
  rw [Int64.toBitVec_add, BitVec.toNat_add, Int64.toBitVec_and, BitVec.toNat_and, Int64.toBitVec_and, BitVec.toNat_and, usl_nat x 2 (k := 2) (by decide), c3_8]
  have h1 : x.toBitVec.toNat &&& m3 8 ≤ m3 8 := Nat.and_le_right
  have h2 : x.toBitVec.toNat / 2 ^ 2 &&& m3 8 ≤ m3 8 := Nat.and_le_right
  rw [m3_8] at h1 h2 ⊢
  exact Nat.mod_eq_of_lt (by omega)
theorem lc3_nat (x : Int64) (hx : x.toBitVec.toNat ≤ 7378697629483820646) : (lc3 x).toBitVec.toNat = g3 8 x.toBitVec.toNat := by
  unfold lc3 g3
  rw [Int64.toBitVec_and, BitVec.toNat_and, Int64.toBitVec_add, BitVec.toNat_add, usl_nat x 4 (k := 4) (by decide), cf_8, Nat.mod_eq_of_lt (by omega)]
theorem g2_le (V : Nat) : g2 8 V ≤ 7378697629483820646 := by
  unfold g2
  have h1 : V &&& m3 8 ≤ m3 8 := Nat.and_le_right
  have h2 : V / 4 &&& m3 8 ≤ m3 8 := Nat.and_le_right
  rw [m3_8] at h1 h2 ⊢
  omega
theorem lcT_nat (x : Int64) : (lc3 (lc2 (lc1 x))).toBitVec.toNat = dS 8 x.toBitVec.toNat := by
  rw [lc3_nat _ (by rw [lc2_nat]; exact g2_le _), lc2_nat, lc1_nat]
  exact (dS_spec 8 _).2
theorem bc_le (r : Nat) : bc r ≤ 8 := cnt_le
def sS : Nat → Nat → Nat
  | 0, _ => 0
  | k + 1, V => bc (V % 256) + sS k (V / 256)
theorem dS8 (V : Nat) : dS 8 V = bc (V % 256) + 256 * (bc (V / 256 % 256) + 256 * (bc (V / 256 / 256 % 256) + 256 * (bc (V / 256 / 256 / 256 % 256) + 256 * (bc (V / 256 / 256 / 256 / 256 % 256) + 256 * (bc (V / 256 / 256 / 256 / 256 / 256 % 256) + 256 * (bc (V / 256 / 256 / 256 / 256 / 256 / 256 % 256) + 256 * bc (V / 256 / 256 / 256 / 256 / 256 / 256 / 256 % 256))))))) := by
  show 256 * (256 * (256 * (256 * (256 * (256 * (256 * (256 * 0 + bc (V / 256 / 256 / 256 / 256 / 256 / 256 / 256 % 256)) + bc (V / 256 / 256 / 256 / 256 / 256 / 256 % 256)) + bc (V / 256 / 256 / 256 / 256 / 256 % 256)) + bc (V / 256 / 256 / 256 / 256 % 256)) + bc (V / 256 / 256 / 256 % 256)) + bc (V / 256 / 256 % 256)) + bc (V / 256 % 256)) + bc (V % 256) = _
  generalize bc (V / 256 / 256 / 256 / 256 / 256 / 256 / 256 % 256) = a8
  generalize bc (V / 256 / 256 / 256 / 256 / 256 / 256 % 256) = a7
  generalize bc (V / 256 / 256 / 256 / 256 / 256 % 256) = a6
  generalize bc (V / 256 / 256 / 256 / 256 % 256) = a5
  generalize bc (V / 256 / 256 / 256 % 256) = a4
  generalize bc (V / 256 / 256 % 256) = a3
  generalize bc (V / 256 % 256) = a2
  generalize bc (V % 256) = a1
  omega
theorem sS8 (V : Nat) : sS 8 V = bc (V % 256) + bc (V / 256 % 256) + bc (V / 256 / 256 % 256) + bc (V / 256 / 256 / 256 % 256) + bc (V / 256 / 256 / 256 / 256 % 256) + bc (V / 256 / 256 / 256 / 256 / 256 % 256) + bc (V / 256 / 256 / 256 / 256 / 256 / 256 % 256) + bc (V / 256 / 256 / 256 / 256 / 256 / 256 / 256 % 256) := by
  show bc (V % 256) + (bc (V / 256 % 256) + (bc (V / 256 / 256 % 256) + (bc (V / 256 / 256 / 256 % 256) + (bc (V / 256 / 256 / 256 / 256 % 256) + (bc (V / 256 / 256 / 256 / 256 / 256 % 256) + (bc (V / 256 / 256 / 256 / 256 / 256 / 256 % 256) + (bc (V / 256 / 256 / 256 / 256 / 256 / 256 / 256 % 256) + 0))))))) = _
  simp only [Nat.add_zero, Nat.add_assoc]
theorem cnt_add {f : Nat → Bool} {a : Nat} : ∀ {b : Nat}, cnt f (a + b) = cnt f a + cnt (fun i => f (a + i)) b
  | 0 => rfl
  | b + 1 => by
    show cnt f (a + b) + _ = cnt f a + (cnt (fun i => f (a + i)) b + _)
    rw [cnt_add (b := b), Nat.add_assoc]
    rfl
theorem cnt_bytes : ∀ (k V : Nat), cnt (fun i => V.testBit i) (8 * k) = sS k V
  | 0, _ => rfl
  | k + 1, V => by
    rw [show 8 * (k + 1) = 8 + 8 * k by omega, cnt_add]
    show _ = bc (V % 256) + sS k (V / 256)
    rw [← cnt_bytes k (V / 256)]
    refine congr (congrArg HAdd.hAdd ?_) ?_
    · unfold bc
      refine cnt_congr fun i hi => ?_
      rw [show (256 : Nat) = 2 ^ 8 from rfl, Nat.testBit_mod_two_pow, decide_eq_true hi, Bool.true_and]
    · refine cnt_congr fun i hi => ?_
      rw [show (256 : Nat) = 2 ^ 8 from rfl, Nat.testBit_div_two_pow, Nat.add_comm]
theorem sS_le : ∀ (k V : Nat), sS k V ≤ 8 * k
  | 0, _ => Nat.le_refl _
  | k + 1, V => by
    have h1 := bc_le (V % 256)
    have h2 := sS_le k (V / 256)
    show bc (V % 256) + sS k (V / 256) ≤ _
    omega
theorem lcU_nat (x : Int64) : (lc6 (lc5 (lc4 (lc3 (lc2 (lc1 x)))))).toBitVec.toNat % 128 = sS 8 x.toBitVec.toNat := by
  have hT := lcT_nat x
  generalize lc3 (lc2 (lc1 x)) = t at hT
  generalize x.toBitVec.toNat = V at hT
  rw [dS8] at hT
  have b1 := bc_le (V % 256)
  have b2 := bc_le (V / 256 % 256)
  have b3 := bc_le (V / 256 / 256 % 256)
  have b4 := bc_le (V / 256 / 256 / 256 % 256)
  have b5 := bc_le (V / 256 / 256 / 256 / 256 % 256)
  have b6 := bc_le (V / 256 / 256 / 256 / 256 / 256 % 256)
  have b7 := bc_le (V / 256 / 256 / 256 / 256 / 256 / 256 % 256)
  have b8 := bc_le (V / 256 / 256 / 256 / 256 / 256 / 256 / 256 % 256)
  rw [sS8, ← sum8 b1 b2 b3 b4 b5 b6 b7 b8 hT]
  generalize bc (V / 256 / 256 / 256 / 256 / 256 / 256 / 256 % 256) = a8 at hT b8
  generalize bc (V / 256 / 256 / 256 / 256 / 256 / 256 % 256) = a7 at hT b7
  generalize bc (V / 256 / 256 / 256 / 256 / 256 % 256) = a6 at hT b6
  generalize bc (V / 256 / 256 / 256 / 256 % 256) = a5 at hT b5
  generalize bc (V / 256 / 256 / 256 % 256) = a4 at hT b4
  generalize bc (V / 256 / 256 % 256) = a3 at hT b3
  generalize bc (V / 256 % 256) = a2 at hT b2
  generalize bc (V % 256) = a1 at hT b1
  have hlt : t.toBitVec.toNat ≤ 578721382704613384 := by omega
  have e4 : (lc4 t).toBitVec.toNat = t.toBitVec.toNat + t.toBitVec.toNat / 256 := by
    unfold lc4
    rw [Int64.toBitVec_add, BitVec.toNat_add, usl_nat t 8 (k := 8) (by decide), show (2 : Nat) ^ 8 = 256 from rfl]
    exact Nat.mod_eq_of_lt (by omega)
  generalize t.toBitVec.toNat = T at hT hlt e4 ⊢
  generalize lc4 t = u at e4
  have e5 : (lc5 u).toBitVec.toNat = T + T / 256 + (T + T / 256) / 65536 := by
    unfold lc5
    rw [Int64.toBitVec_add, BitVec.toNat_add, usl_nat u 16 (k := 16) (by decide), show (2 : Nat) ^ 16 = 65536 from rfl, e4]
    exact Nat.mod_eq_of_lt (by omega)
  generalize lc5 u = v at e5
  have e6 : (lc6 v).toBitVec.toNat = T + T / 256 + (T + T / 256) / 65536 + (T + T / 256 + (T + T / 256) / 65536) / 4294967296 := by
    unfold lc6
    rw [Int64.toBitVec_add, BitVec.toNat_add, usl_nat v 32 (k := 32) (by decide), show (2 : Nat) ^ 32 = 4294967296 from rfl, e5]
    exact Nat.mod_eq_of_lt (by omega)
  rw [e6]
theorem lcF_eq (x : Int64) : lcF x = ii (cnt (fun i => x.toBitVec.getLsbD i) 64) := by
  have e1 : cnt (fun i => x.toBitVec.getLsbD i) 64 = sS 8 x.toBitVec.toNat := cnt_bytes 8 x.toBitVec.toNat
  have hle := sS_le 8 x.toBitVec.toNat
  have hU := lcU_nat x
  rw [e1]
  unfold lcF ii
  generalize lc6 (lc5 (lc4 (lc3 (lc2 (lc1 x))))) = u at hU
  generalize sS 8 x.toBitVec.toNat = c at hU hle
  apply Int32.toBitVec_inj.mp
  apply BitVec.eq_of_toNat_eq
  rw [Int32.toBitVec_and, BitVec.toNat_and]
  have e2 : u.toInt32.toBitVec.toNat = u.toBitVec.toNat % 2 ^ 32 := by
    show (u.toBitVec.signExtend 32).toNat = _
    rw [BitVec.signExtend_eq_setWidth_of_le _ (by omega), BitVec.toNat_setWidth]
  have e3 : (127 : Int32).toBitVec.toNat = 2 ^ 7 - 1 := by decide
  have e4 : (Int32.ofNat c).toBitVec.toNat = c := by
    show (BitVec.ofNat 32 c).toNat = c
    rw [BitVec.toNat_ofNat]
    exact Nat.mod_eq_of_lt (by omega)
  rw [e2, e3, e4, Nat.and_two_pow_sub_one_eq_mod]
  omega
theorem ii_add (a b : Nat) : ii a + ii b = ii (a + b) := by unfold ii; rw [Int32.ofNat_add]
section SZ
variable {n : Nat} {h : Hp}
theorem size_sum (i : Nat) : ∀ m k : Nat, m + k ≤ 8 → upto (fun k s => s + lcF (gL h (13 + 9 * i) k)) m k (ii (cnt (mb h i) (64 * k))) = ii (cnt (mb h i) (64 * (k + m)))
  | 0, k, _ => rfl
  | m + 1, k, hm => by
    show upto (fun k s => s + lcF (gL h (13 + 9 * i) k)) m (k + 1) (ii (cnt (mb h i) (64 * k)) + lcF (gL h (13 + 9 * i) k)) = _
    have e : ii (cnt (mb h i) (64 * k)) + lcF (gL h (13 + 9 * i) k) = ii (cnt (mb h i) (64 * (k + 1))) := by
      rw [lcF_eq, ii_add, show 64 * (k + 1) = 64 * k + 64 by omega, cnt_add]
      refine congrArg ii (congrArg _ (cnt_congr fun r hr => ?_))
      unfold mb
      rw [show (64 * k + r) / 64 = k by omega, show (64 * k + r) % 64 = r by omega]
    rw [e, size_sum i m (k + 1) (by omega), show k + 1 + m = k + (m + 1) by omega]
theorem q_size2 (Q : MRes → Hp → Prop) (S : Str n h) {i : Nat} (hi : i < 8) : WP Gm j_NumberSet_size 0 [some (.inr (.inl (some (12 + 9 * i)))), none, none] [] h Q = Q (.inl (some (.inl (ii (cnt (mb h i) 512))))) h := by
  rw [q_size Q S hi]
  have := size_sum (h := h) i 8 0 (by omega)
  rw [show (64 * 0 : Nat) = 0 from rfl, show cnt (mb h i) 0 = 0 from rfl, show ii 0 = 0 from rfl] at this
  rw [this]
end SZ
