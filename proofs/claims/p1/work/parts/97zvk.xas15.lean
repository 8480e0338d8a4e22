/-! xas15: fairness in values -/
def faN (α : As) (i : Nat) : Nat := (α.1 i 10).toNatClampNeg
def fai9 (n : Nat) (α : As) : UInt64 := if sumN (fun i => faN α i * faN α i) n = 0 then FP.dconst1 else FP.ddiv (FP.l2d (jl (sumN (faN α) n * sumN (faN α) n))) (FP.l2d (jl (n * sumN (fun i => faN α i * faN α i) n)))
section RQ5
variable {τ τ' : Nat → Nat} {n A c B B1 m T : Nat} {K : Int32} {p b9 x9 p9 : Nat → Nat} {h h' : Hp} {α : As}
theorem ca_fair (L : LV n B T h) (V : CA n h α) (hB : B ≤ 2000) : ∃ fx : UInt64, (∀ Q, WP Gm j_S_fairness 0 [some (.inr (.inl (some 1))), none, none, none, none, none, none, none] [] h Q = Q (.inl (some (.inr (.inr (.inr fx))))) h) ∧
    okD (FP.dmul 4661225614328463360 fx) = true ∧ (FP.dcmp fx FP.dconst1 = some .lt ∨ FP.dcmp fx FP.dconst1 = some .eq) ∧ fx = fai9 n α := by
  have S := L.1.1.1
  have C := L.2.1
  have hn := n8 S
  have hS : sumN (fS h) n ≤ 2000 * n := sumN_le fun i hi => (fS_val C hB hi).2
  have hT : sumN (fun i => fS h i * fS h i) n ≤ 4000000 * n := sumN_le fun i hi => Nat.mul_le_mul (fS_val C hB hi).2 (fS_val C hB hi).2
  have hC := cauchy (fS h) n
  obtain ⟨⟨s, t, w⟩, e1, i1, i2⟩ := loopR (fun Q k (a : Int64 × Int64 × Option MV) => WP Gm j_S_fairness 7 [some (.inr (.inl (some 1))), some (.inr (.inr (.inl a.1))), none, some (.inr (.inr (.inl a.2.1))), none, some (.inl (ii k)), a.2.2, none] [] h Q)
    (fun k a => a.1 = jl (sumN (fS h) k) ∧ a.2.1 = jl (sumN (fun i => fS h i * fS h i) k)) n
    (fun k a hk hI => by
      obtain ⟨s, t, w⟩ := a
      have hk8 := lt_8 (n8 S) hk
      have ha := (fS_val C hB hk).2
      dsimp only at hI ⊢
      obtain ⟨rfl, rfl⟩ := hI
      refine ⟨(jl (sumN (fS h) k + fS h k), jl (sumN (fun i => fS h i * fS h i) k + fS h k * fS h k), some (.inr (.inr (.inl (jl (fS h k)))))), fun Q => ?_, rfl, rfl⟩
      rw [e_S_fairness_7]
      simp only [↓e_S_fairness_0, ↓e_S_fairness_1, ↓e_S_fairness_2, ↓e_S_fairness_3, ↓e_S_fairness_4, ↓e_S_fairness_5, ↓e_S_fairness_9, ↓e_S_fairness_10, ↓e_S_fairness_13, ↓e_S_fairness_16, ↓e_S_fairness_19, ↓e_S_fairness_20, ↓e_S_fairness_23, ↓e_S_fairness_26, ↓e_S_fairness_28, ↓e_S_fairness_29, ↓e_S_fairness_32, ↓e_S_fairness_33, ↓e_S_fairness_35, ↓e_S_fairness_36, ↓e_S_fairness_38, ↓e_S_fairness_39, ↓e_S_fairness_40, ↓e_S_fairness_41, ↓e_S_fairness_43, ↓e_S_fairness_45, ↓e_S_fairness_46, ↓e_S_fairness_47, ↓e_S_fairness_48, ↓e_S_fairness_51, ↓e_S_fairness_54, ↓e_S_fairness_55, ↓e_S_fairness_56, ↓e_S_fairness_57, ↓e_S_fairness_60, ↓e_S_fairness_61, ↓e_S_fairness_62, ↓e_S_fairness_63, ↓e_S_fairness_64, ↓e_S_fairness_65, ↓e_S_fairness_66, ↓e_S_fairness_67, ↓e_S_fairness_70, ↓e_S_fairness_73, ↓e_S_fairness_74, ↓e_S_fairness_75, ↓e_S_fairness_76, ↓e_S_fairness_77, ↓e_S_fairness_78, not_true_eq_false, not_false_eq_true, one0, true_or, or_true, eq_self, bI_z, bI_nz, bI_o, b_ft, bI_1, bI_0, ↓kC_l, ↓kC_r, Option.toList_some, Option.toList_none, List.cons_append, List.nil_append, s1_0, s1_1i, s1_1r, s1_1w, s1_1n, s1_s, s2_0, s2_1i, s2_1r, s2_1w, s2_1n, s2_s, gI_sI, gI_sR, gI_sL, gI_sD, gR_sI, gR_sR, gR_sL, gR_sD, gL_sI, gL_sR, gL_sL, gL_sD, gD_sI, gD_sR, gD_sL, gD_sD, isK_sI, isK_sR, isK_sL, isK_sD, inL_sI, inL_sR, inL_sL, inL_sD, nx_sI, nx_sR, nx_sL, nx_sD, kd_sI, kd_sR, kd_sL, kd_sD, ln_sI, ln_sR, ln_sL, ln_sD, ↓reduceIte, c8_n, c8_1, c8_2, c8_3, c8_4, Nat.reduceAdd, k_s S, k_land S, k_nodes S, k_hear S, k_routes S, k_traffic S, k_market S, g_cnt S, r_land S, r_routes S, r_traffic S, r_market S, r_nodes S, r_hear S, r_rland S, r_tland S, r_troutes S, l_nodes S hk8, l_hear S hk8, r_node S hk8, r_queue S hk8, r_set S hk8, r_frames S hk8, r_bits S hk8, k_node S hk8, k_queue S hk8, k_frames S hk8, k_set S hk8, k_bits S hk8, ii_nat (lt31 hk8), le_f (n8 S) hk, (fS_val C hB hk).1, ii_long (show fS h k < 2147483648 by omega), jl_add, jl_mul, ii_succ]) n 0 (0, 0, none) (by omega) ⟨rfl, rfl⟩
  dsimp only at e1 i1 i2
  subst i1
  subst i2
  have pre : ∀ Q, WP Gm j_S_fairness 0 [some (.inr (.inl (some 1))), none, none, none, none, none, none, none] [] h Q = WP Gm j_S_fairness 7 [some (.inr (.inl (some 1))), some (.inr (.inr (.inl 0))), none, some (.inr (.inr (.inl 0))), none, some (.inl (ii 0)), none, none] [] h Q := by
    intro Q
    simp only [↓e_S_fairness_0, ↓e_S_fairness_1, ↓e_S_fairness_2, ↓e_S_fairness_3, ↓e_S_fairness_4, ↓e_S_fairness_5, ↓e_S_fairness_9, ↓e_S_fairness_10, ↓e_S_fairness_13, ↓e_S_fairness_16, ↓e_S_fairness_19, ↓e_S_fairness_20, ↓e_S_fairness_23, ↓e_S_fairness_26, ↓e_S_fairness_28, ↓e_S_fairness_29, ↓e_S_fairness_32, ↓e_S_fairness_33, ↓e_S_fairness_35, ↓e_S_fairness_36, ↓e_S_fairness_38, ↓e_S_fairness_39, ↓e_S_fairness_40, ↓e_S_fairness_41, ↓e_S_fairness_43, ↓e_S_fairness_45, ↓e_S_fairness_46, ↓e_S_fairness_47, ↓e_S_fairness_48, ↓e_S_fairness_51, ↓e_S_fairness_54, ↓e_S_fairness_55, ↓e_S_fairness_56, ↓e_S_fairness_57, ↓e_S_fairness_60, ↓e_S_fairness_61, ↓e_S_fairness_62, ↓e_S_fairness_63, ↓e_S_fairness_64, ↓e_S_fairness_65, ↓e_S_fairness_66, ↓e_S_fairness_67, ↓e_S_fairness_70, ↓e_S_fairness_73, ↓e_S_fairness_74, ↓e_S_fairness_75, ↓e_S_fairness_76, ↓e_S_fairness_77, ↓e_S_fairness_78, not_true_eq_false, not_false_eq_true, one0, true_or, or_true, eq_self, bI_z, bI_nz, bI_o, b_ft, bI_1, bI_0, ↓kC_l, ↓kC_r, Option.toList_some, Option.toList_none, List.cons_append, List.nil_append, s1_0, s1_1i, s1_1r, s1_1w, s1_1n, s1_s, s2_0, s2_1i, s2_1r, s2_1w, s2_1n, s2_s, gI_sI, gI_sR, gI_sL, gI_sD, gR_sI, gR_sR, gR_sL, gR_sD, gL_sI, gL_sR, gL_sL, gL_sD, gD_sI, gD_sR, gD_sL, gD_sD, isK_sI, isK_sR, isK_sL, isK_sD, inL_sI, inL_sR, inL_sL, inL_sD, nx_sI, nx_sR, nx_sL, nx_sD, kd_sI, kd_sR, kd_sL, kd_sD, ln_sI, ln_sR, ln_sL, ln_sD, ↓reduceIte, c8_n, c8_1, c8_2, c8_3, c8_4, Nat.reduceAdd]
    rfl
  have ef : ∀ i, i < n → faN α i = fS h i := fun i hi => by
    unfold faN fS
    rw [V.1 i hi 10 (by omega) (by omega)]
  have eS : sumN (faN α) n = sumN (fS h) n := sumN_congr ef
  have eT : sumN (fun i => faN α i * faN α i) n = sumN (fun i => fS h i * fS h i) n := sumN_congr fun i hi => by rw [ef i hi]
  generalize hs : sumN (fS h) n = s at *
  generalize ht : sumN (fun i => fS h i * fS h i) n = t at *
  have hss : s * s ≤ 256000000 := by
    have : s ≤ 16000 := by omega
    exact Nat.mul_le_mul this this
  have hnt : n * t ≤ 256000000 := by
    have : t ≤ 32000000 := by omega
    exact Nat.mul_le_mul hn this
  by_cases h0 : t = 0
  · refine ⟨FP.dconst1, fun Q => ?_, okD_of fp_one.1, fp_one.2, by unfold fai9; rw [eT, if_pos h0]⟩
    have ec : (0 < lg_cmp (jl t) 0) = False := by rw [h0]; exact eq_false (by decide)
    rw [pre]
    refine (e1 Q).trans ?_
    rw [e_S_fairness_7]
    simp only [↓e_S_fairness_0, ↓e_S_fairness_1, ↓e_S_fairness_2, ↓e_S_fairness_3, ↓e_S_fairness_4, ↓e_S_fairness_5, ↓e_S_fairness_9, ↓e_S_fairness_10, ↓e_S_fairness_13, ↓e_S_fairness_16, ↓e_S_fairness_19, ↓e_S_fairness_20, ↓e_S_fairness_23, ↓e_S_fairness_26, ↓e_S_fairness_28, ↓e_S_fairness_29, ↓e_S_fairness_32, ↓e_S_fairness_33, ↓e_S_fairness_35, ↓e_S_fairness_36, ↓e_S_fairness_38, ↓e_S_fairness_39, ↓e_S_fairness_40, ↓e_S_fairness_41, ↓e_S_fairness_43, ↓e_S_fairness_45, ↓e_S_fairness_46, ↓e_S_fairness_47, ↓e_S_fairness_48, ↓e_S_fairness_51, ↓e_S_fairness_54, ↓e_S_fairness_55, ↓e_S_fairness_56, ↓e_S_fairness_57, ↓e_S_fairness_60, ↓e_S_fairness_61, ↓e_S_fairness_62, ↓e_S_fairness_63, ↓e_S_fairness_64, ↓e_S_fairness_65, ↓e_S_fairness_66, ↓e_S_fairness_67, ↓e_S_fairness_70, ↓e_S_fairness_73, ↓e_S_fairness_74, ↓e_S_fairness_75, ↓e_S_fairness_76, ↓e_S_fairness_77, ↓e_S_fairness_78, not_true_eq_false, not_false_eq_true, one0, true_or, or_true, eq_self, bI_z, bI_nz, bI_o, b_ft, bI_1, bI_0, ↓kC_l, ↓kC_r, Option.toList_some, Option.toList_none, List.cons_append, List.nil_append, s1_0, s1_1i, s1_1r, s1_1w, s1_1n, s1_s, s2_0, s2_1i, s2_1r, s2_1w, s2_1n, s2_s, gI_sI, gI_sR, gI_sL, gI_sD, gR_sI, gR_sR, gR_sL, gR_sD, gL_sI, gL_sR, gL_sL, gL_sD, gD_sI, gD_sR, gD_sL, gD_sD, isK_sI, isK_sR, isK_sL, isK_sD, inL_sI, inL_sR, inL_sL, inL_sD, nx_sI, nx_sR, nx_sL, nx_sD, kd_sI, kd_sR, kd_sL, kd_sD, ln_sI, ln_sR, ln_sL, ln_sD, ↓reduceIte, c8_n, c8_1, c8_2, c8_3, c8_4, Nat.reduceAdd, k_s S, k_land S, k_nodes S, k_hear S, k_routes S, k_traffic S, k_market S, g_cnt S, r_land S, r_routes S, r_traffic S, r_market S, r_nodes S, r_hear S, r_rland S, r_tland S, r_troutes S, le_t (n8 S), ec]
  · have hn0 : 0 < n := by
      rcases Nat.eq_zero_or_pos n with e | e
      · subst e
        exact absurd ht.symm h0
      · exact e
    have hnt0 : 0 < n * t := Nat.mul_pos hn0 (by omega)
    have ea : (jl (s * s)).toInt = ((s * s : Nat) : Int) := jl_int (by omega)
    have eb : (jl (n * t)).toInt = ((n * t : Nat) : Int) := jl_int (by omega)
    obtain ⟨f1, f2, f3⟩ := fp_fair (a := jl (s * s)) (b := jl (n * t)) (by rw [ea]; exact Int.natCast_nonneg _) (by rw [ea, eb]; exact Int.ofNat_le.mpr hC) (by rw [eb]; exact Int.natCast_pos.mpr hnt0) (by rw [eb]; omega)
    have ec : (0 < lg_cmp (jl t) 0) = True := by
      refine eq_true ?_
      unfold lg_cmp
      rw [if_pos (show (0 : Int64) < jl t from Int64.lt_iff_toInt_lt.mpr (by rw [jl_int (by omega)]; show (0 : Int) < _; omega))]
      decide
    refine ⟨_, fun Q => ?_, okD_of f2, f3, by unfold fai9; rw [eT, eS, if_neg h0]⟩
    rw [pre]
    refine (e1 Q).trans ?_
    rw [e_S_fairness_7]
    simp only [↓e_S_fairness_0, ↓e_S_fairness_1, ↓e_S_fairness_2, ↓e_S_fairness_3, ↓e_S_fairness_4, ↓e_S_fairness_5, ↓e_S_fairness_9, ↓e_S_fairness_10, ↓e_S_fairness_13, ↓e_S_fairness_16, ↓e_S_fairness_19, ↓e_S_fairness_20, ↓e_S_fairness_23, ↓e_S_fairness_26, ↓e_S_fairness_28, ↓e_S_fairness_29, ↓e_S_fairness_32, ↓e_S_fairness_33, ↓e_S_fairness_35, ↓e_S_fairness_36, ↓e_S_fairness_38, ↓e_S_fairness_39, ↓e_S_fairness_40, ↓e_S_fairness_41, ↓e_S_fairness_43, ↓e_S_fairness_45, ↓e_S_fairness_46, ↓e_S_fairness_47, ↓e_S_fairness_48, ↓e_S_fairness_51, ↓e_S_fairness_54, ↓e_S_fairness_55, ↓e_S_fairness_56, ↓e_S_fairness_57, ↓e_S_fairness_60, ↓e_S_fairness_61, ↓e_S_fairness_62, ↓e_S_fairness_63, ↓e_S_fairness_64, ↓e_S_fairness_65, ↓e_S_fairness_66, ↓e_S_fairness_67, ↓e_S_fairness_70, ↓e_S_fairness_73, ↓e_S_fairness_74, ↓e_S_fairness_75, ↓e_S_fairness_76, ↓e_S_fairness_77, ↓e_S_fairness_78, not_true_eq_false, not_false_eq_true, one0, true_or, or_true, eq_self, bI_z, bI_nz, bI_o, b_ft, bI_1, bI_0, ↓kC_l, ↓kC_r, Option.toList_some, Option.toList_none, List.cons_append, List.nil_append, s1_0, s1_1i, s1_1r, s1_1w, s1_1n, s1_s, s2_0, s2_1i, s2_1r, s2_1w, s2_1n, s2_s, gI_sI, gI_sR, gI_sL, gI_sD, gR_sI, gR_sR, gR_sL, gR_sD, gL_sI, gL_sR, gL_sL, gL_sD, gD_sI, gD_sR, gD_sL, gD_sD, isK_sI, isK_sR, isK_sL, isK_sD, inL_sI, inL_sR, inL_sL, inL_sD, nx_sI, nx_sR, nx_sL, nx_sD, kd_sI, kd_sR, kd_sL, kd_sD, ln_sI, ln_sR, ln_sL, ln_sD, ↓reduceIte, c8_n, c8_1, c8_2, c8_3, c8_4, Nat.reduceAdd, k_s S, k_land S, k_nodes S, k_hear S, k_routes S, k_traffic S, k_market S, g_cnt S, r_land S, r_routes S, r_traffic S, r_market S, r_nodes S, r_hear S, r_rland S, r_tland S, r_troutes S, le_t (n8 S), ec, ii_long (show n < 2147483648 by omega), jl_mul, okD_of f1]
theorem qx_mfairNow (R : RM τ n p A c B K h) (V : RA τ n p c B1 h α) (hn1 : nx h + 1 ≤ 580300) (hs1 : sc h + 4 ≤ 5700000) : ∃ (fx : UInt64) (g : Hp), (∀ Q, WP Gm j_Mdl_fairnessNow 0 [some (.inr (.inl (some 121))), none, none, none, none, none, none] [] h Q = Q (.inl (some (.inr (.inr (.inr fx))))) g) ∧ Jk τ h g ∧ nx g = nx h + 1 ∧ sc g = sc h + 4 ∧
    okD fx = true ∧ okD (FP.dmul 4661225614328463360 fx) = true ∧ (FP.dcmp fx FP.dconst1 = some .lt ∨ FP.dcmp fx FP.dconst1 = some .eq) ∧ fx = fai9 n α := by
  have F := R.F
  have hn := R.n8
  have hS : sumN (mair h p) n ≤ 2000 * n := sumN_le fun i hi => (R.mfa hi).2
  have hT : sumN (fun i => mair h p i * mair h p i) n ≤ 4000000 * n := sumN_le fun i hi => Nat.mul_le_mul (R.mfa hi).2 (R.mfa hi).2
  have hC := cauchy (mair h p) n
  obtain ⟨c0, -, L⟩ := R.nl
  have hl : ∀ j, ¬ OW (τ 122) j := fun j => by rw [R.t2]; unfold OW; omega
  have hl1 : ¬ τ 122 = 1 := by rw [R.t2]; omega
  obtain ⟨h1, i1, i2, i3, i4, i5⟩ := q_ziter F L hl1 hn1 hs1
  have tq : τ (nx h) = 1 := F.j (Nat.le_refl _)
  have dz : FP.dconst0 = FP.dconst0 := rfl
  obtain ⟨⟨s, t, g, v6⟩, e1, Ds, Dt, J, I, ng, sg⟩ := loopR (fun Q k (x : UInt64 × UInt64 × Hp × Option MV) => WP Gm j_Mdl_fairnessNow 13 [some (.inr (.inl (some 121))), some (.inr (.inr (.inr x.1))), none, some (.inr (.inr (.inr x.2.1))), none, some (.inr (.inl (some (nx h)))), x.2.2.2] [] x.2.2.1 Q)
    (fun k x => FP.Core.DInt ((sumN (mair h p) k : Nat) : Int) x.1 ∧ FP.Core.DInt ((sumN (fun i => mair h p i * mair h p i) k : Nat) : Int) x.2.1 ∧ Jk τ h x.2.2.1 ∧ It x.2.2.1 (nx h) 122 k ∧ nx x.2.2.1 = nx h + 1 ∧ sc x.2.2.1 = sc h + 4) n
    (fun k x hk hI => by
      obtain ⟨s, t, g, v6⟩ := x
      dsimp only at hI ⊢
      obtain ⟨Ds, Dt, J, I, ng, sg⟩ := hI
      have Lg := L.sw J.sw hl (by omega)
      obtain ⟨f, g', f1, f2, f3, f4, f5, f6, f7, f8⟩ := q_znext Lg I hk tq
      have J' := J.trans f5
      have Rg' := R.sw J'.sw
      subst f3
      have k3 := I.1
      have ma := R.mfa hk
      have ea : gI g' (p k) 11 = ii (mair h p k) := by rw [(J'.2 (p k) (by rw [R.nt hk]; omega) 11).1]; exact ma.1
      have b1 := sumN_upto (mair h p) (show k + 1 ≤ n by omega)
      have b2 := sumN_upto (fun i => mair h p i * mair h p i) (show k + 1 ≤ n by omega)
      have c1 : sumN (mair h p) (k + 1) = sumN (mair h p) k + mair h p k := rfl
      have c2 : sumN (fun i => mair h p i * mair h p i) (k + 1) = sumN (fun i => mair h p i * mair h p i) k + mair h p k * mair h p k := rfl
      have da := di_i2d (show mair h p k < 2147483648 by omega)
      have dm := di_mul da da (by omega)
      have d1 := di_add Ds da (by omega)
      have d2 := di_add Dt dm (by omega)
      refine ⟨(FP.dadd s (FP.i2d (ii (mair h p k))), FP.dadd t (FP.dmul (FP.i2d (ii (mair h p k))) (FP.i2d (ii (mair h p k)))), g', some (.inr (.inl (some (p k))))), fun Q => ?_, d1, d2, J', f6, by dsimp only; omega, by dsimp only; omega⟩
      dsimp only
      rw [e_Mdl_fairnessNow_13]
      simp only [↓e_Mdl_fairnessNow_0, ↓e_Mdl_fairnessNow_1, ↓e_Mdl_fairnessNow_2, ↓e_Mdl_fairnessNow_3, ↓e_Mdl_fairnessNow_4, ↓e_Mdl_fairnessNow_5, ↓e_Mdl_fairnessNow_8, ↓e_Mdl_fairnessNow_11, ↓e_Mdl_fairnessNow_15, ↓e_Mdl_fairnessNow_20, ↓e_Mdl_fairnessNow_23, ↓e_Mdl_fairnessNow_25, ↓e_Mdl_fairnessNow_30, ↓e_Mdl_fairnessNow_33, ↓e_Mdl_fairnessNow_35, ↓e_Mdl_fairnessNow_36, ↓e_Mdl_fairnessNow_38, ↓e_Mdl_fairnessNow_41, ↓e_Mdl_fairnessNow_42, ↓e_Mdl_fairnessNow_43, ↓e_Mdl_fairnessNow_44, ↓e_Mdl_fairnessNow_45, ↓e_Mdl_fairnessNow_47, ↓e_Mdl_fairnessNow_50, ↓e_Mdl_fairnessNow_51, ↓e_Mdl_fairnessNow_53, ↓e_Mdl_fairnessNow_56, ↓e_Mdl_fairnessNow_57, ↓e_Mdl_fairnessNow_58, ↓e_Mdl_fairnessNow_59, ↓e_Mdl_fairnessNow_60, ↓e_Mdl_fairnessNow_63, ↓e_Mdl_fairnessNow_64, ↓e_Mdl_fairnessNow_65, ↓e_Mdl_fairnessNow_66, ↓e_Mdl_fairnessNow_69, ↓e_Mdl_fairnessNow_70, ↓e_Mdl_fairnessNow_73, ↓e_Mdl_fairnessNow_74, ↓e_Mdl_fairnessNow_75, ↓e_Mdl_fairnessNow_76, ↓e_Mdl_fairnessNow_77, ↓e_Mdl_fairnessNow_80, ↓e_Mdl_fairnessNow_83, ↓e_Mdl_fairnessNow_84, ↓e_Mdl_fairnessNow_85, ↓e_Mdl_fairnessNow_86, ↓e_Mdl_fairnessNow_87, not_true_eq_false, not_false_eq_true, one0, true_or, or_true, eq_self, bI_z, bI_nz, bI_o, b_ft, bI_1, bI_0, ↓kC_l, ↓kC_r, Option.toList_some, Option.toList_none, List.cons_append, List.nil_append, s1_0, s1_1i, s1_1r, s1_1w, s1_1n, s1_s, s2_0, s2_1i, s2_1r, s2_1w, s2_1n, s2_s, gI_sI, gI_sR, gI_sL, gI_sD, gR_sI, gR_sR, gR_sL, gR_sD, gL_sI, gL_sR, gL_sL, gL_sD, gD_sI, gD_sR, gD_sL, gD_sD, isK_sI, isK_sR, isK_sL, isK_sD, inL_sI, inL_sR, inL_sL, inL_sD, nx_sI, nx_sR, nx_sL, nx_sD, kd_sI, kd_sR, kd_sL, kd_sD, ln_sI, ln_sR, ln_sL, ln_sD, ↓reduceIte, c8_n, c8_1, c8_2, c8_3, c8_4, Nat.reduceAdd, k3, q_zhas _ Lg I (show k ≤ n by omega), hk, decide_true, f4, Rg'.nk hk, Rg'.nz hk, ea, di_ok d1, di_ok dm, di_ok d2]) n 0 (FP.dconst0, FP.dconst0, h1, none) (by omega) ⟨di0, di0, i2, i3, i4, i5⟩
  dsimp only at e1 Ds Dt J I ng sg
  have Lg := L.sw J.sw hl (by omega)
  have Rg := R.sw J.sw
  have k3 := I.1
  have pre : ∀ Q, WP Gm j_Mdl_fairnessNow 0 [some (.inr (.inl (some 121))), none, none, none, none, none, none] [] h Q = WP Gm j_Mdl_fairnessNow 63 [some (.inr (.inl (some 121))), some (.inr (.inr (.inr s))), none, some (.inr (.inr (.inr t))), none, some (.inr (.inl (some (nx h)))), v6] [] g Q := by
    intro Q
    have pre1 : WP Gm j_Mdl_fairnessNow 0 [some (.inr (.inl (some 121))), none, none, none, none, none, none] [] h Q = WP Gm j_Mdl_fairnessNow 13 [some (.inr (.inl (some 121))), some (.inr (.inr (.inr FP.dconst0))), none, some (.inr (.inr (.inr FP.dconst0))), none, some (.inr (.inl (some (nx h)))), none] [] h1 Q := by
      simp only [↓e_Mdl_fairnessNow_0, ↓e_Mdl_fairnessNow_1, ↓e_Mdl_fairnessNow_2, ↓e_Mdl_fairnessNow_3, ↓e_Mdl_fairnessNow_4, ↓e_Mdl_fairnessNow_5, ↓e_Mdl_fairnessNow_8, ↓e_Mdl_fairnessNow_11, ↓e_Mdl_fairnessNow_15, ↓e_Mdl_fairnessNow_20, ↓e_Mdl_fairnessNow_23, ↓e_Mdl_fairnessNow_25, ↓e_Mdl_fairnessNow_30, ↓e_Mdl_fairnessNow_33, ↓e_Mdl_fairnessNow_35, ↓e_Mdl_fairnessNow_36, ↓e_Mdl_fairnessNow_38, ↓e_Mdl_fairnessNow_41, ↓e_Mdl_fairnessNow_42, ↓e_Mdl_fairnessNow_43, ↓e_Mdl_fairnessNow_44, ↓e_Mdl_fairnessNow_45, ↓e_Mdl_fairnessNow_47, ↓e_Mdl_fairnessNow_50, ↓e_Mdl_fairnessNow_51, ↓e_Mdl_fairnessNow_53, ↓e_Mdl_fairnessNow_56, ↓e_Mdl_fairnessNow_57, ↓e_Mdl_fairnessNow_58, ↓e_Mdl_fairnessNow_59, ↓e_Mdl_fairnessNow_60, ↓e_Mdl_fairnessNow_64, ↓e_Mdl_fairnessNow_65, ↓e_Mdl_fairnessNow_66, ↓e_Mdl_fairnessNow_69, ↓e_Mdl_fairnessNow_70, ↓e_Mdl_fairnessNow_73, ↓e_Mdl_fairnessNow_74, ↓e_Mdl_fairnessNow_75, ↓e_Mdl_fairnessNow_76, ↓e_Mdl_fairnessNow_77, ↓e_Mdl_fairnessNow_80, ↓e_Mdl_fairnessNow_83, ↓e_Mdl_fairnessNow_84, ↓e_Mdl_fairnessNow_85, ↓e_Mdl_fairnessNow_86, ↓e_Mdl_fairnessNow_87, not_true_eq_false, not_false_eq_true, one0, true_or, or_true, eq_self, bI_z, bI_nz, bI_o, b_ft, bI_1, bI_0, ↓kC_l, ↓kC_r, Option.toList_some, Option.toList_none, List.cons_append, List.nil_append, s1_0, s1_1i, s1_1r, s1_1w, s1_1n, s1_s, s2_0, s2_1i, s2_1r, s2_1w, s2_1n, s2_s, gI_sI, gI_sR, gI_sL, gI_sD, gR_sI, gR_sR, gR_sL, gR_sD, gL_sI, gL_sR, gL_sL, gL_sD, gD_sI, gD_sR, gD_sL, gD_sD, isK_sI, isK_sR, isK_sL, isK_sD, inL_sI, inL_sR, inL_sL, inL_sD, nx_sI, nx_sR, nx_sL, nx_sD, kd_sI, kd_sR, kd_sL, kd_sD, ln_sI, ln_sR, ln_sL, ln_sD, ↓reduceIte, c8_n, c8_1, c8_2, c8_3, c8_4, Nat.reduceAdd, R.k, R.r9, R.k122, i1]
    rw [pre1, e1 Q, e_Mdl_fairnessNow_13]
    simp only [↓e_Mdl_fairnessNow_0, ↓e_Mdl_fairnessNow_1, ↓e_Mdl_fairnessNow_2, ↓e_Mdl_fairnessNow_3, ↓e_Mdl_fairnessNow_4, ↓e_Mdl_fairnessNow_5, ↓e_Mdl_fairnessNow_8, ↓e_Mdl_fairnessNow_11, ↓e_Mdl_fairnessNow_15, ↓e_Mdl_fairnessNow_20, ↓e_Mdl_fairnessNow_23, ↓e_Mdl_fairnessNow_25, ↓e_Mdl_fairnessNow_30, ↓e_Mdl_fairnessNow_33, ↓e_Mdl_fairnessNow_35, ↓e_Mdl_fairnessNow_36, ↓e_Mdl_fairnessNow_38, ↓e_Mdl_fairnessNow_41, ↓e_Mdl_fairnessNow_42, ↓e_Mdl_fairnessNow_43, ↓e_Mdl_fairnessNow_44, ↓e_Mdl_fairnessNow_45, ↓e_Mdl_fairnessNow_47, ↓e_Mdl_fairnessNow_50, ↓e_Mdl_fairnessNow_51, ↓e_Mdl_fairnessNow_53, ↓e_Mdl_fairnessNow_56, ↓e_Mdl_fairnessNow_57, ↓e_Mdl_fairnessNow_58, ↓e_Mdl_fairnessNow_59, ↓e_Mdl_fairnessNow_60, ↓e_Mdl_fairnessNow_64, ↓e_Mdl_fairnessNow_65, ↓e_Mdl_fairnessNow_66, ↓e_Mdl_fairnessNow_69, ↓e_Mdl_fairnessNow_70, ↓e_Mdl_fairnessNow_73, ↓e_Mdl_fairnessNow_74, ↓e_Mdl_fairnessNow_75, ↓e_Mdl_fairnessNow_76, ↓e_Mdl_fairnessNow_77, ↓e_Mdl_fairnessNow_80, ↓e_Mdl_fairnessNow_83, ↓e_Mdl_fairnessNow_84, ↓e_Mdl_fairnessNow_85, ↓e_Mdl_fairnessNow_86, ↓e_Mdl_fairnessNow_87, not_true_eq_false, not_false_eq_true, one0, true_or, or_true, eq_self, bI_z, bI_nz, bI_o, b_ft, bI_1, bI_0, ↓kC_l, ↓kC_r, Option.toList_some, Option.toList_none, List.cons_append, List.nil_append, s1_0, s1_1i, s1_1r, s1_1w, s1_1n, s1_s, s2_0, s2_1i, s2_1r, s2_1w, s2_1n, s2_s, gI_sI, gI_sR, gI_sL, gI_sD, gR_sI, gR_sR, gR_sL, gR_sD, gL_sI, gL_sR, gL_sL, gL_sD, gD_sI, gD_sR, gD_sL, gD_sD, isK_sI, isK_sR, isK_sL, isK_sD, inL_sI, inL_sR, inL_sL, inL_sD, nx_sI, nx_sR, nx_sL, nx_sD, kd_sI, kd_sR, kd_sL, kd_sD, ln_sI, ln_sR, ln_sL, ln_sD, ↓reduceIte, c8_n, c8_1, c8_2, c8_3, c8_4, Nat.reduceAdd, k3, q_zhas _ Lg I (Nat.le_refl n), Nat.lt_irrefl, decide_false]
  have ef : ∀ i, i < n → faN α i = mair h p i := fun i hi => by
    unfold faN mair
    have e : gI h (p i) 11 = α.1 i 10 := V.f hi 10 (by omega) (by omega)
    rw [e]
  have eS : sumN (faN α) n = sumN (mair h p) n := sumN_congr ef
  have eT : sumN (fun i => faN α i * faN α i) n = sumN (fun i => mair h p i * mair h p i) n := sumN_congr fun i hi => by rw [ef i hi]
  generalize hs' : sumN (mair h p) n = S at *
  generalize ht' : sumN (fun i => mair h p i * mair h p i) n = T at *
  have hS16 : S ≤ 16000 := by omega
  have hSS : S * S ≤ 256000000 := Nat.mul_le_mul hS16 hS16
  have hT32 : T ≤ 32000000 := by omega
  have hnT : n * T ≤ 256000000 := Nat.mul_le_mul hn hT32
  by_cases h0 : T = 0
  · have ez : (Op.cmpValue (FP.dcmp t FP.dconst0) .l = 0) = True := by rw [di_zero Dt]; exact eq_true h0
    refine ⟨FP.dconst1, g, fun Q => ?_, J, ng, sg, by decide, okD_of fp_one.1, fp_one.2, by unfold fai9; rw [eT, if_pos h0]⟩
    rw [pre]
    simp only [↓e_Mdl_fairnessNow_0, ↓e_Mdl_fairnessNow_1, ↓e_Mdl_fairnessNow_2, ↓e_Mdl_fairnessNow_3, ↓e_Mdl_fairnessNow_4, ↓e_Mdl_fairnessNow_5, ↓e_Mdl_fairnessNow_8, ↓e_Mdl_fairnessNow_11, ↓e_Mdl_fairnessNow_15, ↓e_Mdl_fairnessNow_20, ↓e_Mdl_fairnessNow_23, ↓e_Mdl_fairnessNow_25, ↓e_Mdl_fairnessNow_30, ↓e_Mdl_fairnessNow_33, ↓e_Mdl_fairnessNow_35, ↓e_Mdl_fairnessNow_36, ↓e_Mdl_fairnessNow_38, ↓e_Mdl_fairnessNow_41, ↓e_Mdl_fairnessNow_42, ↓e_Mdl_fairnessNow_43, ↓e_Mdl_fairnessNow_44, ↓e_Mdl_fairnessNow_45, ↓e_Mdl_fairnessNow_47, ↓e_Mdl_fairnessNow_50, ↓e_Mdl_fairnessNow_51, ↓e_Mdl_fairnessNow_53, ↓e_Mdl_fairnessNow_56, ↓e_Mdl_fairnessNow_57, ↓e_Mdl_fairnessNow_58, ↓e_Mdl_fairnessNow_59, ↓e_Mdl_fairnessNow_60, ↓e_Mdl_fairnessNow_63, ↓e_Mdl_fairnessNow_64, ↓e_Mdl_fairnessNow_65, ↓e_Mdl_fairnessNow_66, ↓e_Mdl_fairnessNow_69, ↓e_Mdl_fairnessNow_70, ↓e_Mdl_fairnessNow_73, ↓e_Mdl_fairnessNow_74, ↓e_Mdl_fairnessNow_75, ↓e_Mdl_fairnessNow_76, ↓e_Mdl_fairnessNow_77, ↓e_Mdl_fairnessNow_80, ↓e_Mdl_fairnessNow_83, ↓e_Mdl_fairnessNow_84, ↓e_Mdl_fairnessNow_85, ↓e_Mdl_fairnessNow_86, ↓e_Mdl_fairnessNow_87, not_true_eq_false, not_false_eq_true, one0, true_or, or_true, eq_self, bI_z, bI_nz, bI_o, b_ft, bI_1, bI_0, ↓kC_l, ↓kC_r, Option.toList_some, Option.toList_none, List.cons_append, List.nil_append, s1_0, s1_1i, s1_1r, s1_1w, s1_1n, s1_s, s2_0, s2_1i, s2_1r, s2_1w, s2_1n, s2_s, gI_sI, gI_sR, gI_sL, gI_sD, gR_sI, gR_sR, gR_sL, gR_sD, gL_sI, gL_sR, gL_sL, gL_sD, gD_sI, gD_sR, gD_sL, gD_sD, isK_sI, isK_sR, isK_sL, isK_sD, inL_sI, inL_sR, inL_sL, inL_sD, nx_sI, nx_sR, nx_sL, nx_sD, kd_sI, kd_sR, kd_sL, kd_sD, ln_sI, ln_sR, ln_sL, ln_sD, ↓reduceIte, c8_n, c8_1, c8_2, c8_3, c8_4, Nat.reduceAdd, ez]
  · have ez : (Op.cmpValue (FP.dcmp t FP.dconst0) .l = 0) = False := by rw [di_zero Dt]; exact eq_false h0
    have hn0 : 0 < n := by
      rcases Nat.eq_zero_or_pos n with e | e
      · subst e
        exact absurd ht'.symm h0
      · exact e
    have hnT0 : 0 < n * T := Nat.mul_pos hn0 (by omega)
    have dss := di_mul Ds Ds (by omega)
    have dn := di_i2d (show n < 2147483648 by omega)
    have dnt := di_mul dn Dt (by omega)
    have ea : (jl (S * S)).toInt = ((S * S : Nat) : Int) := jl_int (by omega)
    have eb : (jl (n * T)).toInt = ((n * T : Nat) : Int) := jl_int (by omega)
    obtain ⟨f1, f2, f3⟩ := fp_fair (a := jl (S * S)) (b := jl (n * T)) (by rw [ea]; exact Int.natCast_nonneg _) (by rw [ea, eb]; exact Int.ofNat_le.mpr hC) (by rw [eb]; exact Int.natCast_pos.mpr hnT0) (by rw [eb]; omega)
    have hS0 : 0 < S * S := by
      rcases Nat.eq_zero_or_pos S with e | e
      · exfalso
        refine h0 ?_
        rw [← ht']
        refine sumN_zero fun i hi => ?_
        have := sumN_zero_of (f := mair h p) (by rw [hs']; exact e) i hi
        rw [this]
      · exact Nat.mul_pos e e
    have e3 : FP.dmul s s = FP.l2d (jl (S * S)) := di_eq hS0 (by omega) dss
    have e4 : FP.dmul (FP.i2d (ii n)) t = FP.l2d (jl (n * T)) := di_eq hnT0 (by omega) dnt
    have o3 : okD (FP.l2d (jl (S * S))) = true := by rw [← e3]; exact di_ok dss
    have o4 : okD (FP.l2d (jl (n * T))) = true := by rw [← e4]; exact di_ok dnt
    refine ⟨FP.ddiv (FP.l2d (jl (S * S))) (FP.l2d (jl (n * T))), g, fun Q => ?_, J, ng, sg, okD_of f1, okD_of f2, f3, by unfold fai9; rw [eT, eS, if_neg h0]⟩
    rw [pre]
    simp only [↓e_Mdl_fairnessNow_0, ↓e_Mdl_fairnessNow_1, ↓e_Mdl_fairnessNow_2, ↓e_Mdl_fairnessNow_3, ↓e_Mdl_fairnessNow_4, ↓e_Mdl_fairnessNow_5, ↓e_Mdl_fairnessNow_8, ↓e_Mdl_fairnessNow_11, ↓e_Mdl_fairnessNow_15, ↓e_Mdl_fairnessNow_20, ↓e_Mdl_fairnessNow_23, ↓e_Mdl_fairnessNow_25, ↓e_Mdl_fairnessNow_30, ↓e_Mdl_fairnessNow_33, ↓e_Mdl_fairnessNow_35, ↓e_Mdl_fairnessNow_36, ↓e_Mdl_fairnessNow_38, ↓e_Mdl_fairnessNow_41, ↓e_Mdl_fairnessNow_42, ↓e_Mdl_fairnessNow_43, ↓e_Mdl_fairnessNow_44, ↓e_Mdl_fairnessNow_45, ↓e_Mdl_fairnessNow_47, ↓e_Mdl_fairnessNow_50, ↓e_Mdl_fairnessNow_51, ↓e_Mdl_fairnessNow_53, ↓e_Mdl_fairnessNow_56, ↓e_Mdl_fairnessNow_57, ↓e_Mdl_fairnessNow_58, ↓e_Mdl_fairnessNow_59, ↓e_Mdl_fairnessNow_60, ↓e_Mdl_fairnessNow_63, ↓e_Mdl_fairnessNow_64, ↓e_Mdl_fairnessNow_65, ↓e_Mdl_fairnessNow_66, ↓e_Mdl_fairnessNow_69, ↓e_Mdl_fairnessNow_70, ↓e_Mdl_fairnessNow_73, ↓e_Mdl_fairnessNow_74, ↓e_Mdl_fairnessNow_75, ↓e_Mdl_fairnessNow_76, ↓e_Mdl_fairnessNow_77, ↓e_Mdl_fairnessNow_80, ↓e_Mdl_fairnessNow_83, ↓e_Mdl_fairnessNow_84, ↓e_Mdl_fairnessNow_85, ↓e_Mdl_fairnessNow_86, ↓e_Mdl_fairnessNow_87, not_true_eq_false, not_false_eq_true, one0, true_or, or_true, eq_self, bI_z, bI_nz, bI_o, b_ft, bI_1, bI_0, ↓kC_l, ↓kC_r, Option.toList_some, Option.toList_none, List.cons_append, List.nil_append, s1_0, s1_1i, s1_1r, s1_1w, s1_1n, s1_s, s2_0, s2_1i, s2_1r, s2_1w, s2_1n, s2_s, gI_sI, gI_sR, gI_sL, gI_sD, gR_sI, gR_sR, gR_sL, gR_sD, gL_sI, gL_sR, gL_sL, gL_sD, gD_sI, gD_sR, gD_sL, gD_sD, isK_sI, isK_sR, isK_sL, isK_sD, inL_sI, inL_sR, inL_sL, inL_sD, nx_sI, nx_sR, nx_sL, nx_sD, kd_sI, kd_sR, kd_sL, kd_sD, ln_sI, ln_sR, ln_sL, ln_sD, ↓reduceIte, c8_n, c8_1, c8_2, c8_3, c8_4, Nat.reduceAdd, ez, o3, o4, Rg.k, Rg.r9, Rg.k122, q_nn _ Rg, e3, e4, okD_of f1]
theorem fai_t (n : Nat) (α : As) (t : Int32) (hn : n ≤ 8) : fai9 n (asV α 50 1 t) = fai9 n α := by
  have ef : ∀ i, i < n → faN (asV α 50 1 t) i = faN α i := fun i hi => by
    unfold faN
    rw [asV_n _ _ (by omega)]
  have eS : sumN (faN (asV α 50 1 t)) n = sumN (faN α) n := sumN_congr ef
  have eT : sumN (fun i => faN (asV α 50 1 t) i * faN (asV α 50 1 t) i) n = sumN (fun i => faN α i * faN α i) n := sumN_congr fun i hi => by rw [ef i hi]
  unfold fai9
  rw [eT, eS]
theorem qx_mfairness (R : RM τ n p (8 * B) c B K h) (V : RA τ n p c B h α) (hn1 : nx h + 1000 ≤ 580300) (hs1 : sc h + 7000 ≤ 5700000) :
    ∃ h', (∀ Q, WP Gm j_Mdl_fairness 0 [some (.inr (.inl (some 121)))] [] h Q = Q (.inl (some (.inr (.inr (.inr (fai9 n α)))))) h') ∧ Jt τ h h' := by
  have R0 : RM τ n p (8 * B) c B K (sI h 121 0 0) := R.th
  obtain ⟨fx, g, g1, J, n1, s1, -, -, -, e⟩ := qx_mfairNow R0 (V.th R 0) (by show nx h + 1 ≤ _; omega) (by show sc h + 4 ≤ _; omega)
  have n1' : nx g = nx h + 1 := n1
  have s1' : sc g = sc h + 4 := s1
  rw [fai_t n α 0 R.n8] at e
  subst e
  refine ⟨g, fun Q => ?_, Jt.j J (by omega) (by omega)⟩
  simp only [↓e_Mdl_fairness_0, ↓e_Mdl_fairness_1, ↓e_Mdl_fairness_2, ↓e_Mdl_fairness_5, ↓e_Mdl_fairness_6, ↓e_Mdl_fairness_9, not_true_eq_false, not_false_eq_true, one0, true_or, or_true, eq_self, bI_z, bI_nz, bI_o, b_ft, bI_1, bI_0, ↓kC_l, ↓kC_r, Option.toList_some, Option.toList_none, List.cons_append, List.nil_append, s1_0, s1_1i, s1_1r, s1_1w, s1_1n, s1_s, s2_0, s2_1i, s2_1r, s2_1w, s2_1n, s2_s, gI_sI, gI_sR, gI_sL, gI_sD, gR_sI, gR_sR, gR_sL, gR_sD, gL_sI, gL_sR, gL_sL, gL_sD, gD_sI, gD_sR, gD_sL, gD_sD, isK_sI, isK_sR, isK_sL, isK_sD, inL_sI, inL_sR, inL_sL, inL_sD, nx_sI, nx_sR, nx_sL, nx_sD, kd_sI, kd_sR, kd_sL, kd_sD, ln_sI, ln_sR, ln_sL, ln_sD, ↓reduceIte, c8_n, c8_1, c8_2, c8_3, c8_4, Nat.reduceAdd, R.k, R0.k, g1]
end RQ5
