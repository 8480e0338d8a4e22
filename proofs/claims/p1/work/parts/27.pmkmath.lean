/-! pmkmath: nobody overpays; all pay no more than the winners are worth -/
def jj (z : Int) : Int32 := Int32.ofInt z
theorem ii_jj (k : Nat) : ii k = jj k := by unfold ii jj; rw [Int32.ofInt_eq_ofNat]
theorem jj_int {z : Int} (h1 : -2147483648 ≤ z) (h2 : z < 2147483648) : (jj z).toInt = z := Int32.toInt_ofInt_of_le h1 h2
theorem jj_le {a b : Int} (ha : -2147483648 ≤ a) (ha2 : a < 2147483648) (hb : -2147483648 ≤ b) (hb2 : b < 2147483648) : (jj a ≤ jj b) = (a ≤ b) := propext (by rw [Int32.le_iff_toInt_le, jj_int ha ha2, jj_int hb hb2])
theorem jj_lt {a b : Int} (ha : -2147483648 ≤ a) (ha2 : a < 2147483648) (hb : -2147483648 ≤ b) (hb2 : b < 2147483648) : (jj a < jj b) = (a < b) := propext (by rw [Int32.lt_iff_toInt_lt, jj_int ha ha2, jj_int hb hb2])
theorem jj_sub (a b : Int) : jj a - jj b = jj (a - b) := by unfold jj; rw [Int32.ofInt_sub]
theorem jj_add (a b : Int) : jj a + jj b = jj (a + b) := by unfold jj; rw [Int32.ofInt_add]
def tB (q p : Nat → Nat) (W b : Nat) : Nat → Nat
  | 0 => 0
  | m + 1 => tB q p W b m + (if W.testBit m = true ∧ q m = b then p m else 0)
theorem tB_ge {q p : Nat → Nat} {W b i : Nat} : ∀ {m : Nat}, i < m → W.testBit i = true → q i = b → p i ≤ tB q p W b m
  | m + 1, hi, h1, h2 => by
    show _ ≤ tB q p W b m + _
    by_cases e : i = m
    · subst e
      rw [if_pos ⟨h1, h2⟩]
      omega
    · have := tB_ge (p := p) (m := m) (by omega) h1 h2
      omega
theorem tB_sum {q p : Nat → Nat} {W : Nat} : ∀ m : Nat, tB q p W 0 m + tB q p W 1 m + tB q p W 2 m + tB q p W 3 m + tB q p W 4 m ≤ sP p W m
  | 0 => Nat.le_refl _
  | m + 1 => by
    have ih := tB_sum (q := q) (p := p) (W := W) m
    show (tB q p W 0 m + (if W.testBit m = true ∧ q m = 0 then p m else 0)) + (tB q p W 1 m + (if W.testBit m = true ∧ q m = 1 then p m else 0)) + (tB q p W 2 m + (if W.testBit m = true ∧ q m = 2 then p m else 0)) + (tB q p W 3 m + (if W.testBit m = true ∧ q m = 3 then p m else 0)) + (tB q p W 4 m + (if W.testBit m = true ∧ q m = 4 then p m else 0)) ≤ sP p W m + (if W.testBit m = true then p m else 0)
    by_cases hb : W.testBit m = true
    · simp only [hb, true_and, ↓reduceIte]
      generalize q m = x
      by_cases h0 : x = 0
      · subst h0; simp; omega
      · by_cases h1 : x = 1
        · subst h1; simp; omega
        · by_cases h2 : x = 2
          · subst h2; simp; omega
          · by_cases h3 : x = 3
            · subst h3; simp; omega
            · by_cases h4 : x = 4
              · subst h4; simp; omega
              · rw [if_neg h0, if_neg h1, if_neg h2, if_neg h3, if_neg h4]; omega
    · simp only [hb, false_and, ↓reduceIte, Bool.false_eq_true]
      omega
section MM
variable {c : Nat} {h : Hp}
def qN (h : Hp) (i : Nat) : Nat := (gI h 116 i).toNatClampNeg
theorem wp_val (M : MIv c h) (hc : c ≤ 10) {W : Nat} (hW : gI h 115 6 = ii W) (b : Nat) (hb : b < 5) : ∃ w, wpF c h (ii b) = ii w ∧ w ≤ tB (qN h) (pN h) W b c ∧ w ≤ 999 := by
  unfold wpF
  cases e : fdUp (wpC h (ii b)) c 0 with
  | none => exact ⟨0, rfl, Nat.zero_le _, by omega⟩
  | some i =>
    obtain ⟨-, hi, hc9⟩ := fdUp_some e
    unfold wpC at hc9
    rw [Bool.and_eq_true, hW, tb_ii _ (by omega), decide_eq_true_eq] at hc9
    obtain ⟨b1, p1, q1, q2, q3, q4, q5⟩ := M.1 i (by omega)
    have hb1 : b1 = b := by
      have := q4.symm.trans hc9.2
      rwa [ii_inj (by omega) (by omega)] at this
    have hq : qN h i = b := by unfold qN; rw [q4, ii_nat (by omega), hb1]
    have hp : pN h i = p1 := by unfold pN; rw [q5, ii_nat (by omega)]
    refine ⟨p1, q5, ?_, q3⟩
    rw [← hp]
    exact tB_ge (by omega) hc9.1 hq
theorem pb_val (M : MIv c h) (hc : c ≤ 10) {W : Nat} (hW : gI h 115 6 = ii W) (hm : gI h 115 7 = ii (sP (pN h) W c)) (hu : ∀ b, b < 5 → ∃ u, gI h 120 b = ii u ∧ u ≤ sP (pN h) W c) (b : Nat) (hb : b < 5) :
    ∃ (w : Nat) (v : Int), wpF c h (ii b) = jj w ∧ pbF c h b = jj v ∧ v ≤ w ∧ -9990 ≤ v ∧ w ≤ tB (qN h) (pN h) W b c ∧ w ≤ 999 := by
  obtain ⟨w, h1, h2, h3⟩ := wp_val M hc hW b hb
  obtain ⟨u, u1, u2⟩ := hu b hb
  have hle := M.le W
  unfold pbF
  rw [h1]
  by_cases e : w = 0
  · subst e
    rw [if_pos (show ii 0 = 0 from rfl)]
    exact ⟨0, 0, ii_jj 0, rfl, by omega, by omega, by omega, by omega⟩
  · rw [if_neg (fun q => e (by rwa [show (0 : Int32) = ii 0 from rfl, ii_inj (by omega) (by omega)] at q)), u1, hm, ii_jj, ii_jj, ii_jj, jj_sub, jj_sub]
    refine ⟨w, _, rfl, rfl, ?_, ?_, h2, h3⟩
    · omega
    · omega
theorem nob_true (M : MIv c h) (hc : c ≤ 10) : nobF c h = true := by
  obtain ⟨W, -, hW, hm, hu⟩ := M.2.2.2
  unfold nobF
  rw [Bool.not_eq_true']
  refine Bool.eq_false_iff.mpr fun q => ?_
  obtain ⟨b, -, hb, hlt⟩ := exUp_true.mp q
  obtain ⟨w, v, h1, h2, h3, h4, -, h5⟩ := pb_val M hc hW hm hu b (by omega)
  rw [decide_eq_true_eq, h1, h2, jj_lt (by omega) (by omega) (by omega) (by omega)] at hlt
  omega
theorem pays_le (M : MIv c h) (hc : c ≤ 10) : 0 + pbF c h 0 + pbF c h 1 + pbF c h 2 + pbF c h 3 + pbF c h 4 ≤ gI h 115 7 := by
  obtain ⟨W, -, hW, hm, hu⟩ := M.2.2.2
  obtain ⟨w0, v0, -, a0, b0, c0, d0, -⟩ := pb_val M hc hW hm hu 0 (by omega)
  obtain ⟨w1, v1, -, a1, b1, c1, d1, -⟩ := pb_val M hc hW hm hu 1 (by omega)
  obtain ⟨w2, v2, -, a2, b2, c2, d2, -⟩ := pb_val M hc hW hm hu 2 (by omega)
  obtain ⟨w3, v3, -, a3, b3, c3, d3, -⟩ := pb_val M hc hW hm hu 3 (by omega)
  obtain ⟨w4, v4, -, a4, b4, c4, d4, -⟩ := pb_val M hc hW hm hu 4 (by omega)
  have hs := tB_sum (q := qN h) (p := pN h) (W := W) c
  have hle := M.le W
  rw [a0, a1, a2, a3, a4, hm, ii_jj, show (0 : Int32) = jj 0 from rfl, jj_add, jj_add, jj_add, jj_add, jj_add, jj_le (by omega) (by omega) (by omega) (by omega)]
  omega
theorem MIv.zero (h1 : gI h 119 0 = 0) (h2 : gI h 115 6 = 0) (h3 : gI h 115 7 = 0) (h4 : ∀ b, b < 5 → gI h 120 b = 0) : MIv 0 h :=
  ⟨fun i hi => by omega, h1, fun s hs => Or.inr (by
    have : s = 0 := by omega
    subst this
    exact h1), 0, by omega, h2, h3, fun b hb => ⟨0, h4 b hb, Nat.le_refl _⟩⟩
theorem MIv.of {h' : Hp} (M : MIv c h) (he : ∀ a k, 115 ≤ a → a < 121 → gI h' a k = gI h a k) : MIv c h' := by
  have hp : pN h' = pN h := by funext i; unfold pN; rw [he 117 i (by omega) (by omega)]
  unfold MIv
  rw [hp]
  refine ⟨fun i hi => ?_, ?_, fun s hs => ?_, ?_⟩
  · rw [he 116 i (by omega) (by omega), he 117 i (by omega) (by omega)]; exact M.1 i hi
  · rw [he 119 0 (by omega) (by omega)]; exact M.2.1
  · rw [he 119 s (by omega) (by omega)]; exact M.2.2.1 s hs
  · obtain ⟨W, q1, q2, q3, q4⟩ := M.2.2.2
    exact ⟨W, q1, by rw [he 115 6 (by omega) (by omega)]; exact q2, by rw [he 115 7 (by omega) (by omega)]; exact q3, fun b hb => by rw [he 120 b (by omega) (by omega)]; exact q4 b hb⟩
end MM
