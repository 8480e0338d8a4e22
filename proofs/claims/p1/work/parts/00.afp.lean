/-! the quotient of two whole numbers, the first no greater than the second, is no NaN and at most 1 -/
theorem fp_cross {c b a d : Nat} {q r : Int} (h1 : c * 2 ^ q.toNat = a * 2 ^ (-q).toNat) (h2 : d * 2 ^ r.toNat = b * 2 ^ (-r).toNat) : c * b * 2 ^ ((q - r) - 0).toNat = a * d * 2 ^ (0 - (q - r)).toNat := by
  have hp : 0 < 2 ^ ((-q).toNat + r.toNat) := Nat.two_pow_pos _
  refine Nat.eq_of_mul_eq_mul_right hp ?_
  have e1 : ((q - r) - 0).toNat + ((-q).toNat + r.toNat) = q.toNat + (-r).toNat + (0 - (q - r)).toNat := by omega
  calc c * b * 2 ^ ((q - r) - 0).toNat * 2 ^ ((-q).toNat + r.toNat) = c * b * 2 ^ (((q - r) - 0).toNat + ((-q).toNat + r.toNat)) := by rw [Nat.mul_assoc, ← Nat.pow_add]
    _ = (c * 2 ^ q.toNat) * (b * 2 ^ (-r).toNat) * 2 ^ (0 - (q - r)).toNat := by rw [e1, Nat.pow_add, Nat.pow_add]; ac_rfl
    _ = (a * 2 ^ (-q).toNat) * (d * 2 ^ r.toNat) * 2 ^ (0 - (q - r)).toNat := by rw [h1, h2]
    _ = a * d * 2 ^ (0 - (q - r)).toNat * 2 ^ ((-q).toNat + r.toNat) := by rw [Nat.pow_add]; ac_rfl
theorem fp_one_units : FP.Core.zmag FP.Core.b64 (.fin false (2 ^ 52) (-52)) = 2 ^ 1074 := by decide +kernel
theorem fp_round {a b : Nat} (hb : 0 < b) (hab : a ≤ b) : FP.Core.zmag FP.Core.b64 (FP.Core.roundRatio FP.Core.b64 false a b 0) ≤ FP.Core.zmag FP.Core.b64 (.fin false (2 ^ 52) (-52)) := by
  refine FP.Core.zmag_roundRatio_le FP.Core.good_b64 (e0 := FP.Core.b64.qmin) hb (show 2 ^ 52 < 2 ^ 53 ∧ FP.Core.b64.qmin ≤ -52 ∧ -52 ≤ FP.Core.b64.qmax ∧ (-52 = FP.Core.b64.qmin ∨ FP.Core.b64.tails ≤ 2 ^ 52) from ⟨by decide +kernel, by decide +kernel, by decide +kernel, Or.inr (by decide +kernel)⟩) FP.Core.Datum.noConfusion (Int.le_refl _) (by decide) ?_
  rw [fp_one_units]
  unfold FP.Core.inUnits
  rw [show (0 - FP.Core.b64.qmin).toNat = 1074 by decide, show (FP.Core.b64.qmin - FP.Core.b64.qmin).toNat = 0 by decide, Nat.pow_zero, Nat.mul_one, Nat.mul_comm]
  exact Nat.mul_le_mul_left _ hab
theorem fp_quot {a b : Int64} (ha : 0 ≤ a.toInt) (hab : a.toInt ≤ b.toInt) (hb : 0 < b.toInt) (hb2 : b.toInt < 9007199254740992) : FP.Core.val64 (FP.Core.ddiv (FP.Core.l2d a) (FP.Core.l2d b)) = FP.Core.roundRatio FP.Core.b64 false a.toInt.natAbs b.toInt.natAbs 0 := by
  have wa := FP.Core.l2d_whole (a := a) (by unfold FP.Core.Small53; omega)
  have wb := FP.Core.l2d_whole (a := b) (by unfold FP.Core.Small53; omega)
  obtain ⟨c, q, hx⟩ := FP.Core.l2d_shape a
  obtain ⟨d, r, hy⟩ := FP.Core.l2d_shape b
  rw [decide_eq_false (by omega)] at hx hy
  rw [hx] at wa
  rw [hy] at wb
  have h1 := FP.Core.whole_natAbs wa
  have h2 := FP.Core.whole_natAbs wb
  have hd : d ≠ 0 := fun q => by have := (FP.Core.whole_zero wb).mp q; omega
  rw [FP.Core.val64_ddiv, hx, hy]
  show (if d = 0 then _ else FP.Core.roundRatio FP.Core.b64 (false != false) c d (q - r)) = _
  rw [if_neg hd]
  exact FP.Core.roundRatio_congr (by omega) (by omega) (fp_cross h1 h2)
theorem fp_fair {a b : Int64} (ha : 0 ≤ a.toInt) (hab : a.toInt ≤ b.toInt) (hb : 0 < b.toInt) (hb2 : b.toInt < 9007199254740992) :
    (FP.ddiv (FP.l2d a) (FP.l2d b) &&& 0x7fffffffffffffff ≤ 0x7ff0000000000000) ∧ (FP.dmul 4661225614328463360 (FP.ddiv (FP.l2d a) (FP.l2d b)) &&& 0x7fffffffffffffff ≤ 0x7ff0000000000000) ∧
    (FP.dcmp (FP.ddiv (FP.l2d a) (FP.l2d b)) FP.dconst1 = some .lt ∨ FP.dcmp (FP.ddiv (FP.l2d a) (FP.l2d b)) FP.dconst1 = some .eq) := by
  have hv := fp_quot ha hab hb hb2
  have hn : FP.Core.val64 (FP.Core.ddiv (FP.Core.l2d a) (FP.Core.l2d b)) ≠ .nan := by rw [hv]; exact FP.Core.roundRatio_ne_nan _ _ _ _ _
  have hf := (FP.Core.notNaN_iff _).mpr hn
  refine ⟨Jvm.Free.Fl.noNaN64_no.mpr hf, Jvm.Free.Fl.noNaN64_no.mpr ?_, ?_⟩
  · show FP.Core.dIsNaN (FP.Core.dmul 4661225614328463360 (FP.Core.ddiv (FP.Core.l2d a) (FP.Core.l2d b))) = false
    rw [FP.Core.dmul_comm]
    exact FP.Core.dmul_out' hf ⟨false, 2 ^ 52, -40, by decide +kernel⟩ (by rintro ⟨s, q, h⟩; rw [show FP.Core.val64 4661225614328463360 = .fin false (2 ^ 52) (-40) by decide +kernel] at h; cases h)
  · refine FP.Core.dcmp_le.mpr ⟨hn, by rw [show FP.dconst1 = FP.Core.dconst1 from rfl, FP.Core.val64_dconst1]; exact FP.Core.Datum.noConfusion, ?_⟩
    show FP.Core.zval FP.Core.b64 (FP.Core.val64 (FP.Core.ddiv (FP.Core.l2d a) (FP.Core.l2d b))) ≤ FP.Core.zval FP.Core.b64 (FP.Core.val64 FP.Core.dconst1)
    rw [hv, FP.Core.val64_dconst1]
    unfold FP.Core.zval
    rw [FP.Core.sgn_roundRatio]
    show ((FP.Core.zmag FP.Core.b64 (FP.Core.roundRatio FP.Core.b64 false a.toInt.natAbs b.toInt.natAbs 0) : Nat) : Int) ≤ ((FP.Core.zmag FP.Core.b64 (.fin false (2 ^ 52) (-52)) : Nat) : Int)
    exact Int.ofNat_le.mpr (fp_round (by omega) (by omega))
theorem fp_one : (FP.dmul 4661225614328463360 FP.dconst1 &&& 0x7fffffffffffffff ≤ 0x7ff0000000000000) ∧ (FP.dcmp FP.dconst1 FP.dconst1 = some .lt ∨ FP.dcmp FP.dconst1 FP.dconst1 = some .eq) := by decide +kernel
