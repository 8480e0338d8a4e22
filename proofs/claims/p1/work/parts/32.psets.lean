/-! psets: the numbers that have arrived -/
def cnt (f : Nat → Bool) : Nat → Nat
  | 0 => 0
  | m + 1 => cnt f m + (if f m = true then 1 else 0)
theorem cnt_congr {f g : Nat → Bool} : ∀ {m : Nat}, (∀ i, i < m → f i = g i) → cnt f m = cnt g m
  | 0, _ => rfl
  | m + 1, h => by
    show cnt f m + _ = cnt g m + _
    rw [cnt_congr (fun i hi => h i (by omega)), h m (by omega)]
theorem cnt_put {f g : Nat → Bool} {k : Nat} (hk : f k = false) (hg : ∀ i, g i = (f i || decide (i = k))) : ∀ {m : Nat}, cnt g m = cnt f m + (if k < m then 1 else 0)
  | 0 => rfl
  | m + 1 => by
    show cnt g m + _ = cnt f m + _ + _
    rw [cnt_put hk hg (m := m), hg m]
    by_cases e : m = k
    · subst e
      rw [hk]
      simp
    · rw [decide_eq_false e, Bool.or_false]
      by_cases h1 : k < m
      · rw [if_pos h1, if_pos (show k < m + 1 by omega)]; omega
      · rw [if_neg h1, if_neg (show ¬ k < m + 1 by omega)]; omega
theorem cnt_le {f : Nat → Bool} : ∀ {m : Nat}, cnt f m ≤ m
  | 0 => Nat.le_refl _
  | m + 1 => by
    have := cnt_le (f := f) (m := m)
    show cnt f m + (if f m = true then 1 else 0) ≤ _
    split <;> omega
theorem cnt_low {f : Nat → Bool} {s : Nat} (h : ∀ k, s ≤ k → f k = false) : ∀ {m : Nat}, s ≤ m → cnt f m = cnt f s
  | 0, hm => by
    have : s = 0 := by omega
    subst this
    rfl
  | m + 1, hm => by
    by_cases e : s = m + 1
    · subst e; rfl
    · show cnt f m + _ = _
      rw [h m (by omega), cnt_low h (by omega)]
      rfl
def sumN (f : Nat → Nat) : Nat → Nat
  | 0 => 0
  | m + 1 => sumN f m + f m
theorem sumN_congr {f g : Nat → Nat} : ∀ {m : Nat}, (∀ i, i < m → f i = g i) → sumN f m = sumN g m
  | 0, _ => rfl
  | m + 1, h => by
    show sumN f m + _ = sumN g m + _
    rw [sumN_congr (fun i hi => h i (by omega)), h m (by omega)]
theorem sumN_inc {f g : Nat → Nat} {k d : Nat} (h : ∀ i, g i = f i + (if i = k then d else 0)) : ∀ {m : Nat}, sumN g m = sumN f m + (if k < m then d else 0)
  | 0 => rfl
  | m + 1 => by
    show sumN g m + _ = sumN f m + _ + _
    rw [sumN_inc h (m := m), h m]
    by_cases e : m = k
    · subst e
      rw [if_pos rfl, if_neg (Nat.lt_irrefl _), if_pos (Nat.lt_succ_self _)]
      omega
    · rw [if_neg e]
      by_cases h1 : k < m
      · rw [if_pos h1, if_pos (show k < m + 1 by omega)]; omega
      · rw [if_neg h1, if_neg (show ¬ k < m + 1 by omega)]; omega
theorem sumN_le {f : Nat → Nat} {b : Nat} : ∀ {m : Nat}, (∀ i, i < m → f i ≤ b) → sumN f m ≤ b * m
  | 0, _ => Nat.le_refl _
  | m + 1, h => by
    have h1 := sumN_le (f := f) (b := b) (m := m) (fun i hi => h i (by omega))
    have h2 := h m (by omega)
    show sumN f m + f m ≤ b * (m + 1)
    rw [Nat.mul_succ]
    omega
/-- has the number k arrived from node i -/
def mb (h : Hp) (i k : Nat) : Bool := (gL h (13 + 9 * i) (k / 64)).toBitVec.getLsbD (k % 64)
theorem div64 : ∀ k, k < 512 → ii k / 64 = ii (k / 64) := by decide +kernel
theorem mod64 : ∀ k, k < 512 → ii k - ii (k / 64) * 64 = ii (k % 64) := by decide +kernel
theorem sh64 : ∀ r, r < 64 → (((ii r).toInt64 &&& 63).toBitVec.smod 64).toNat = r := by decide +kernel
theorem bit64 (x : Int64) {r : Nat} (hr : r < 64) : (lg_cmp (x >>> ((ii r).toInt64 &&& 63) &&& 1) 0 = 0) = (x.toBitVec.getLsbD r = false) := by
  have e2 : (x >>> ((ii r).toInt64 &&& 63)).toBitVec.getLsbD 0 = x.toBitVec.getLsbD r := by
    rw [Int64.toBitVec_shiftRight]
    unfold BitVec.sshiftRight'
    rw [sh64 r hr, BitVec.getLsbD_sshiftRight]
    simp [hr]
  have e3 : (lg_cmp (x >>> ((ii r).toInt64 &&& 63) &&& 1) 0 = 0) ↔ (x >>> ((ii r).toInt64 &&& 63) &&& 1 = 0) := by
    generalize x >>> ((ii r).toInt64 &&& 63) &&& 1 = y
    unfold lg_cmp
    by_cases h0 : y = 0
    · subst h0
      simp
    · by_cases h1 : y > 0
      · rw [if_pos h1]
        exact ⟨fun q => absurd q (by decide), fun q => absurd q h0⟩
      · rw [if_neg h1, if_neg h0]
        exact ⟨fun q => absurd q (by decide), fun q => absurd q h0⟩
  rw [← e2]
  apply propext
  rw [e3]
  generalize x >>> ((ii r).toInt64 &&& 63) = v
  constructor
  · intro q
    have h1 := congrArg (fun x : Int64 => x.toBitVec.getLsbD 0) q
    rw [Int64.toBitVec_and, BitVec.getLsbD_and] at h1
    revert h1
    cases v.toBitVec.getLsbD 0
    · intro _; rfl
    · decide
  · intro hb
    apply Int64.toBitVec_inj.mp
    rw [Int64.toBitVec_and]
    apply BitVec.eq_of_getLsbD_eq
    intro j hj
    rw [BitVec.getLsbD_and]
    by_cases h0 : j = 0
    · subst h0
      rw [hb]
      simp
    · have : (Int64.toBitVec 1).getLsbD j = false := by
        have : ∀ j, j < 64 → j ≠ 0 → (Int64.toBitVec 1).getLsbD j = false := by decide
        exact this j hj h0
      rw [this]
      simp
theorem put64 : ∀ r, r < 64 → (1 <<< ((ii r).toInt64 &&& 63) : Int64).toBitVec = BitVec.twoPow 64 r := by decide +kernel
section SETM
variable {n : Nat} {h : Hp}
theorem q_has (Q : MRes → Hp → Prop) (S : Str n h) {i k : Nat} (hi : i < 8) (hk : k < 512) : WP Gm j_NumberSet_has 0 [some (.inr (.inl (some (12 + 9 * i)))), some (.inl (ii k))] [] h Q = Q (.inl (some (.inl (bI (mb h i k))))) h := by
  have e1 : (ii k < (0 : Int32)) = False := by rw [show (0 : Int32) = ii 0 from rfl, ii_lt (by omega) (by omega)]; simp
  have e2 : ((512 : Int32) ≤ ii k) = False := lle_f (n := 512) (by omega) hk
  have e3 : k / 64 < 8 := by omega
  simp only [↓e_NumberSet_has_0, ↓e_NumberSet_has_1, ↓e_NumberSet_has_4, ↓e_NumberSet_has_5, ↓e_NumberSet_has_8, ↓e_NumberSet_has_11, ↓e_NumberSet_has_12, ↓e_NumberSet_has_15, ↓e_NumberSet_has_16, ↓e_NumberSet_has_18, ↓e_NumberSet_has_19, ↓e_NumberSet_has_20, ↓e_NumberSet_has_21, ↓e_NumberSet_has_23, ↓e_NumberSet_has_24, ↓e_NumberSet_has_25, ↓e_NumberSet_has_26, ↓e_NumberSet_has_27, ↓e_NumberSet_has_28, ↓e_NumberSet_has_29, ↓e_NumberSet_has_32, ↓e_NumberSet_has_33, ↓e_NumberSet_has_36, ↓e_NumberSet_has_37, not_true_eq_false, not_false_eq_true, one0, true_or, or_true, eq_self, bI_z, bI_nz, bI_o, b_ft, bI_1, bI_0, ↓kC_l, ↓kC_r, Option.toList_some, Option.toList_none, List.cons_append, List.nil_append, s1_0, s1_1i, s1_1r, s1_1w, s1_1n, s1_s, s2_0, s2_1i, s2_1r, s2_1w, s2_1n, s2_s, gI_sI, gI_sR, gI_sL, gI_sD, gR_sI, gR_sR, gR_sL, gR_sD, gL_sI, gL_sR, gL_sL, gL_sD, gD_sI, gD_sR, gD_sL, gD_sD, isK_sI, isK_sR, isK_sL, isK_sD, inL_sI, inL_sR, inL_sL, inL_sD, nx_sI, nx_sR, nx_sL, nx_sD, kd_sI, kd_sR, kd_sL, kd_sD, ln_sI, ln_sR, ln_sL, ln_sD, ↓reduceIte, c8_n, c8_1, c8_2, c8_3, c8_4, Nat.reduceAdd, k_s S, k_land S, k_nodes S, k_hear S, k_routes S, k_traffic S, k_market S, g_cnt S, r_land S, r_routes S, r_traffic S, r_market S, r_nodes S, r_hear S, r_rland S, r_tland S, r_troutes S, l_nodes S hi, l_hear S hi, r_node S hi, r_queue S hi, r_set S hi, r_frames S hi, r_bits S hi, k_node S hi, k_queue S hi, k_frames S hi, k_set S hi, k_bits S hi, ii_nat (lt31 hi), e1, e2, (show ¬ (64 : Int32) = 0 by decide), mod64 k hk, div64 k hk, l_bits S hi e3, ii_nat (show k / 64 < 2147483648 by omega), bit64 _ (show k % 64 < 64 by omega)]
  unfold mb
  cases (gL h (13 + 9 * i) (k / 64)).toBitVec.getLsbD (k % 64) <;> rfl
def putS (h : Hp) (i k : Nat) : Hp := sL h (13 + 9 * i) (k / 64) (gL h (13 + 9 * i) (k / 64) ||| 1 <<< ((ii (k % 64)).toInt64 &&& 63))
theorem q_put (Q : MRes → Hp → Prop) (S : Str n h) {i k : Nat} (hi : i < 8) (hk : k < 512) : WP Gm j_NumberSet_put 0 [some (.inr (.inl (some (12 + 9 * i)))), some (.inl (ii k))] [] h Q = Q (.inl none) (putS h i k) := by
  have e1 : (ii k < (0 : Int32)) = False := by rw [show (0 : Int32) = ii 0 from rfl, ii_lt (by omega) (by omega)]; simp
  have e2 : ((512 : Int32) ≤ ii k) = False := lle_f (n := 512) (by omega) hk
  have e3 : k / 64 < 8 := by omega
  simp only [↓e_NumberSet_put_0, ↓e_NumberSet_put_1, ↓e_NumberSet_put_4, ↓e_NumberSet_put_5, ↓e_NumberSet_put_8, ↓e_NumberSet_put_11, ↓e_NumberSet_put_12, ↓e_NumberSet_put_15, ↓e_NumberSet_put_16, ↓e_NumberSet_put_18, ↓e_NumberSet_put_19, ↓e_NumberSet_put_20, ↓e_NumberSet_put_21, ↓e_NumberSet_put_22, ↓e_NumberSet_put_23, ↓e_NumberSet_put_25, ↓e_NumberSet_put_26, ↓e_NumberSet_put_27, ↓e_NumberSet_put_28, ↓e_NumberSet_put_29, not_true_eq_false, not_false_eq_true, one0, true_or, or_true, eq_self, bI_z, bI_nz, bI_o, b_ft, bI_1, bI_0, ↓kC_l, ↓kC_r, Option.toList_some, Option.toList_none, List.cons_append, List.nil_append, s1_0, s1_1i, s1_1r, s1_1w, s1_1n, s1_s, s2_0, s2_1i, s2_1r, s2_1w, s2_1n, s2_s, gI_sI, gI_sR, gI_sL, gI_sD, gR_sI, gR_sR, gR_sL, gR_sD, gL_sI, gL_sR, gL_sL, gL_sD, gD_sI, gD_sR, gD_sL, gD_sD, isK_sI, isK_sR, isK_sL, isK_sD, inL_sI, inL_sR, inL_sL, inL_sD, nx_sI, nx_sR, nx_sL, nx_sD, kd_sI, kd_sR, kd_sL, kd_sD, ln_sI, ln_sR, ln_sL, ln_sD, ↓reduceIte, c8_n, c8_1, c8_2, c8_3, c8_4, Nat.reduceAdd, k_s S, k_land S, k_nodes S, k_hear S, k_routes S, k_traffic S, k_market S, g_cnt S, r_land S, r_routes S, r_traffic S, r_market S, r_nodes S, r_hear S, r_rland S, r_tland S, r_troutes S, l_nodes S hi, l_hear S hi, r_node S hi, r_queue S hi, r_set S hi, r_frames S hi, r_bits S hi, k_node S hi, k_queue S hi, k_frames S hi, k_set S hi, k_bits S hi, ii_nat (lt31 hi), e1, e2, (show ¬ (64 : Int32) = 0 by decide), mod64 k hk, div64 k hk, l_bits S hi e3, ii_nat (show k / 64 < 2147483648 by omega)]
  rfl
theorem mb_put {i k : Nat} (hk : k < 512) (j m : Nat) : mb (putS h i k) j m = (mb h j m || (decide (j = i) && decide (m = k))) := by
  unfold putS mb
  rw [gL_sL]
  by_cases hji : j = i
  · subst hji
    by_cases hd : m / 64 = k / 64
    · rw [if_pos ⟨rfl, hd⟩, Int64.toBitVec_or, BitVec.getLsbD_or, put64 _ (by omega), BitVec.getLsbD_twoPow, hd]
      congr 1
      rw [decide_eq_true rfl, Bool.true_and]
      by_cases hm : m = k
      · subst hm
        simp
        omega
      · rw [decide_eq_false hm]
        have : ¬ k % 64 = m % 64 := by omega
        simp [this]
    · rw [if_neg (fun q => hd q.2)]
      have : ¬ m = k := by rintro rfl; exact hd rfl
      simp [this]
  · rw [if_neg (by omega)]
    simp [hji]
end SETM
