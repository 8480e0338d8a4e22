/-! pbits: bits of sets -/
theorem tb_bv (s : Int32) {i : Nat} (hi : i < 32) : tb s i = s.toBitVec.getLsbD i := by
  have e1 : ∀ i, i < 32 → ((ii i &&& 31).toBitVec.smod 32).toNat = i := by decide
  have e2 : (s >>> (ii i &&& 31)).toBitVec.getLsbD 0 = s.toBitVec.getLsbD i := by
    rw [Int32.toBitVec_shiftRight]
    unfold BitVec.sshiftRight'
    rw [e1 i hi, BitVec.getLsbD_sshiftRight]
    simp [hi]
  unfold tb
  rw [← e2]
  generalize s >>> (ii i &&& 31) = v
  cases hb : v.toBitVec.getLsbD 0 with
  | false =>
    refine decide_eq_false fun q => q ?_
    apply Int32.toBitVec_inj.mp
    rw [Int32.toBitVec_and]
    apply BitVec.eq_of_getLsbD_eq
    intro j hj
    rw [BitVec.getLsbD_and]
    by_cases h0 : j = 0
    · subst h0
      rw [hb]
      simp
    · have : (Int32.toBitVec 1).getLsbD j = false := by
        have : ∀ j, j < 32 → j ≠ 0 → (Int32.toBitVec 1).getLsbD j = false := by decide
        exact this j hj h0
      rw [this]
      simp
  | true =>
    refine decide_eq_true fun q => ?_
    have h1 := congrArg (fun x : Int32 => x.toBitVec.getLsbD 0) q
    rw [Int32.toBitVec_and, BitVec.getLsbD_and, hb] at h1
    revert h1
    decide
theorem tb_or (s t : Int32) {i : Nat} (hi : i < 32) : tb (s ||| t) i = (tb s i || tb t i) := by
  rw [tb_bv _ hi, tb_bv _ hi, tb_bv _ hi, Int32.toBitVec_or, BitVec.getLsbD_or]
theorem tb_and (s t : Int32) {i : Nat} (hi : i < 32) : tb (s &&& t) i = (tb s i && tb t i) := by
  rw [tb_bv _ hi, tb_bv _ hi, tb_bv _ hi, Int32.toBitVec_and, BitVec.getLsbD_and]
theorem tb_ii (w : Nat) {i : Nat} (hi : i < 32) : tb (ii w) i = w.testBit i := by
  rw [tb_bv _ hi]
  show (BitVec.ofNat 32 w).getLsbD i = _
  rw [BitVec.getLsbD_ofNat]
  simp [hi]
theorem bitN_eq : ∀ k, k < 31 → bitN k = ii (2 ^ k) := by decide
theorem tb_bitN {k i : Nat} (hk : k < 31) (hi : i < 32) : tb (bitN k) i = decide (k = i) := by
  rw [bitN_eq k hk, tb_ii _ hi, Nat.testBit_two_pow]
theorem tb_0 {i : Nat} (hi : i < 32) : tb 0 i = false := by
  show tb (ii 0) i = false
  rw [tb_ii _ hi, Nat.zero_testBit]
/-- what a walk that sets bits gives -/
theorem upto_bits (c : Nat → Bool) {i : Nat} (hi : i < 32) : ∀ (m k : Nat) (s : Int32), k + m ≤ 31 → tb (upto (fun k s => if c k = true then s ||| bitN k else s) m k s) i = (tb s i || (decide (k ≤ i ∧ i < k + m) && c i))
  | 0, k, s, h => by
    show tb s i = _
    rw [decide_eq_false (by omega)]
    simp
  | m + 1, k, s, h => by
    show tb (upto (fun k s => if c k = true then s ||| bitN k else s) m (k + 1) (if c k = true then s ||| bitN k else s)) i = _
    rw [upto_bits c hi m (k + 1) _ (by omega)]
    have e : tb (if c k = true then s ||| bitN k else s) i = (tb s i || (decide (k = i) && c k)) := by
      cases c k with
      | true => rw [if_pos rfl, tb_or _ _ hi, tb_bitN (by omega) hi]; simp
      | false => rw [if_neg (by decide)]; simp
    rw [e]
    by_cases hk : k = i
    · subst hk
      rw [decide_eq_true rfl, decide_eq_false (by omega), decide_eq_true (by omega)]
      cases tb s k <;> cases c k <;> rfl
    · rw [decide_eq_false hk]
      by_cases hr : k + 1 ≤ i ∧ i < k + 1 + m
      · rw [decide_eq_true hr, decide_eq_true (by omega)]
        simp
      · rw [decide_eq_false hr, decide_eq_false (by omega)]
        simp
theorem lw_tb {n : Nat} {h : Hp} (hn : n ≤ 8) {i k : Nat} (hk : k < 32) : tb (lwF n h i) k = (decide (k < n) && (chF n h i k && chF n h k i)) := by
  unfold lwF
  rw [upto_bits (fun k => chF n h i k && chF n h k i) hk n 0 0 (by omega), tb_0 hk]
  simp
theorem or_low {c k : Nat} (hk : k < 2 ^ c) (hc : c < 31) : ii k ||| ii (2 ^ c) = ii (k + 2 ^ c) := by
  have := Nat.two_pow_add_eq_or_of_lt hk 1
  rw [Nat.mul_one] at this
  rw [Nat.add_comm k, this, Nat.or_comm]
  apply Int32.toBitVec_inj.mp
  rw [Int32.toBitVec_or]
  show BitVec.ofNat 32 k ||| BitVec.ofNat 32 (2 ^ c) = BitVec.ofNat 32 (k ||| 2 ^ c)
  rw [BitVec.ofNat_or]
