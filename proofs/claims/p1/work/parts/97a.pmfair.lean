/-! pmfair: whole numbers as doubles; the reference's fairness -/
theorem di0 : FP.Core.DInt 0 FP.dconst0 := by
  have h := FP.Core.i2d_int 0
  have e : FP.Core.i2d 0 = FP.dconst0 := by decide +kernel
  have z : (0 : Int32).toInt = 0 := by decide
  rw [e, z] at h
  exact h
theorem di_i2d {a : Nat} (ha : a < 2147483648) : FP.Core.DInt (a : Int) (FP.i2d (ii a)) := by
  have h := FP.Core.i2d_int (ii a)
  rw [ii_int ha] at h
  exact h
theorem di_add {a b : Nat} {x y : UInt64} (hx : FP.Core.DInt (a : Int) x) (hy : FP.Core.DInt (b : Int) y) (h : a + b ≤ 1000000000) : FP.Core.DInt ((a + b : Nat) : Int) (FP.dadd x y) := by
  have e : ((a + b : Nat) : Int) = (a : Int) + (b : Int) := by omega
  rw [e]
  exact FP.Core.dadd_int hx hy (by rw [← e]; omega)
theorem di_mul {a b : Nat} {x y : UInt64} (hx : FP.Core.DInt (a : Int) x) (hy : FP.Core.DInt (b : Int) y) (h : a * b ≤ 1000000000) : FP.Core.DInt ((a * b : Nat) : Int) (FP.dmul x y) := by
  have e : ((a * b : Nat) : Int) = (a : Int) * (b : Int) := by rw [Int.natCast_mul]
  rw [e]
  exact FP.Core.dmul_int hx hy (by rw [← e]; omega)
theorem di_ok {i : Int} {x : UInt64} (hx : FP.Core.DInt i x) : okD x = true := okD_of (Jvm.Free.Fl.noNaN64_no.mpr ((FP.Core.notNaN_iff x).mpr (FP.Core.DInt_ne_nan hx)))
theorem di_zero {a : Nat} {x : UInt64} (hx : FP.Core.DInt (a : Int) x) : (Op.cmpValue (FP.dcmp x FP.dconst0) .l = 0) = (a = 0) := by
  have h : FP.dcmp x FP.dconst0 = some (compare (a : Int) 0) := FP.Core.dcmp_int hx di0
  rw [h]
  apply propext
  by_cases e : a = 0
  · subst e
    exact ⟨fun _ => rfl, fun _ => by decide⟩
  · have : compare (a : Int) 0 = .gt := by
      rw [Int.compare_eq_gt]
      omega
    rw [this]
    exact ⟨fun w => absurd w (by decide), fun w => absurd w e⟩
theorem di_l2d {a : Nat} (ha : a ≤ 1000000000) : FP.Core.DInt (a : Int) (FP.l2d (jl a)) := by
  have h : FP.Core.DInt (jl a).toInt (FP.Core.l2d (jl a)) := FP.Core.l2d_int (by rw [jl_int (by omega)]; omega)
  rw [jl_int (by omega)] at h
  exact h
theorem di_eq {a : Nat} {x : UInt64} (ha : 0 < a) (h9 : a ≤ 1000000000) (hx : FP.Core.DInt (a : Int) x) : x = FP.l2d (jl a) := FP.Core.dint_unique (by omega) hx (di_l2d h9)
theorem sumN_upto (f : Nat → Nat) : ∀ {n k : Nat}, k ≤ n → sumN f k ≤ sumN f n
  | 0, k, hk => by rw [show k = 0 by omega]; exact Nat.le_refl _
  | n + 1, k, hk => by
    by_cases e : k = n + 1
    · rw [e]; exact Nat.le_refl _
    · have := sumN_upto f (n := n) (k := k) (by omega)
      show sumN f k ≤ sumN f n + f n
      omega
theorem sumN_zero {f : Nat → Nat} : ∀ {n : Nat}, (∀ i, i < n → f i = 0) → sumN f n = 0
  | 0, _ => rfl
  | n + 1, q => by
    have h1 := sumN_zero (f := f) (n := n) fun i hi => q i (by omega)
    have h2 := q n (by omega)
    show sumN f n + f n = 0
    omega
theorem sumN_zero_of {f : Nat → Nat} : ∀ {n : Nat}, sumN f n = 0 → ∀ i, i < n → f i = 0
  | 0, _, i, hi => absurd hi (by omega)
  | n + 1, q, i, hi => by
    have q' : sumN f n + f n = 0 := q
    by_cases e : i = n
    · rw [e]; omega
    · exact sumN_zero_of (n := n) (by omega) i (by omega)
section MFA
variable {τ : Nat → Nat} {n A c B : Nat} {K : Int32} {p : Nat → Nat} {h : Hp}
def mair (h : Hp) (p : Nat → Nat) (j : Nat) : Nat := (gI h (p j) 11).toNatClampNeg
theorem RM.mfa (R : RM τ n p A c B K h) {j : Nat} (hj : j < n) : gI h (p j) 11 = ii (mair h p j) ∧ mair h p j ≤ 2000 := by
  obtain ⟨a, a1, a2⟩ := (R.nd hj).2.2.2.2
  have hB := R.b2
  have e : mair h p j = a := by
    unfold mair
    rw [a2, ii_nat (by omega)]
  rw [e]
  exact ⟨a2, by omega⟩
theorem q_mfairNow (R : RM τ n p A c B K h) (hn1 : nx h + 1 ≤ 580300) (hs1 : sc h + 4 ≤ 5700000) : ∃ (fx : UInt64) (g : Hp), (∀ Q, WP Gm j_Mdl_fairnessNow 0 [some (.inr (.inl (some 121))), none, none, none, none, none, none] [] h Q = Q (.inl (some (.inr (.inr (.inr fx))))) g) ∧ Jk τ h g ∧ nx g = nx h + 1 ∧ sc g = sc h + 4 ∧
    okD fx = true ∧ okD (FP.dmul 4661225614328463360 fx) = true ∧ (FP.dcmp fx FP.dconst1 = some .lt ∨ FP.dcmp fx FP.dconst1 = some .eq) := by
  have F := R.F
  have hn := R.n8
  have hS : sumN (mair h p) n ≤ 2000 * n := sumN_le fun i hi => (R.mfa hi).2
  have hT : sumN (fun i => mair h p i * mair h p i) n ≤ 4000000 * n := sumN_le fun i hi => Nat.mul_le_mul (R.mfa hi).2 (R.mfa hi).2
  have hC := cauchy (mair h p) n
  obtain ⟨c0, -, L⟩ := R.nl
  have hl : ∀ j, ¬ OW (τ 122) j := fun j => by rw [R.t2]; unfold OW; omega
  have hl1 : ¬ τ 122 = 1 := by rw [R.t2]; omega
  obtain ⟨h1, i1, i2, i3, i4, i5⟩ := q_ziter F L hl1 hn1 hs1
  have tq : τ (nx h) = 1 := F.j (Nat.le_refl _)
  have dz : FP.dconst0 = FP.dconst0 := rfl
  obtain ⟨⟨s, t, g, v6⟩, e1, Ds, Dt, J, I, ng, sg⟩ := loopR (fun Q k (x : UInt64 × UInt64 × Hp × Option MV) => WP Gm j_Mdl_fairnessNow 13 [some (.inr (.inl (some 121))), some (.inr (.inr (.inr x.1))), none, some (.inr (.inr (.inr x.2.1))), none, some (.inr (.inl (some (nx h)))), x.2.2.2] [] x.2.2.1 Q)
    (fun k x => FP.Core.DInt ((sumN (mair h p) k : Nat) : Int) x.1 ∧ FP.Core.DInt ((sumN (fun i => mair h p i * mair h p i) k : Nat) : Int) x.2.1 ∧ Jk τ h x.2.2.1 ∧ It x.2.2.1 (nx h) 122 k ∧ nx x.2.2.1 = nx h + 1 ∧ sc x.2.2.1 = sc h + 4) n
    (fun k x hk hI => by
      obtain ⟨s, t, g, v6⟩ := x
      dsimp only at hI ⊢
      obtain ⟨Ds, Dt, J, I, ng, sg⟩ := hI
      have Lg := L.sw J.sw hl (by omega)
      obtain ⟨f, g', f1, f2, f3, f4, f5, f6, f7, f8⟩ := q_znext Lg I hk tq
      have J' := J.trans f5
      have Rg' := R.sw J'.sw
      subst f3
      have k3 := I.1
      have ma := R.mfa hk
      have ea : gI g' (p k) 11 = ii (mair h p k) := by rw [(J'.2 (p k) (by rw [R.nt hk]; omega) 11).1]; exact ma.1
      have b1 := sumN_upto (mair h p) (show k + 1 ≤ n by omega)
      have b2 := sumN_upto (fun i => mair h p i * mair h p i) (show k + 1 ≤ n by omega)
      have c1 : sumN (mair h p) (k + 1) = sumN (mair h p) k + mair h p k := rfl
      have c2 : sumN (fun i => mair h p i * mair h p i) (k + 1) = sumN (fun i => mair h p i * mair h p i) k + mair h p k * mair h p k := rfl
      have da := di_i2d (show mair h p k < 2147483648 by omega)
      have dm := di_mul da da (by omega)
      have d1 := di_add Ds da (by omega)
      have d2 := di_add Dt dm (by omega)
      refine ⟨(FP.dadd s (FP.i2d (ii (mair h p k))), FP.dadd t (FP.dmul (FP.i2d (ii (mair h p k))) (FP.i2d (ii (mair h p k)))), g', some (.inr (.inl (some (p k))))), fun Q => ?_, d1, d2, J', f6, by dsimp only; omega, by dsimp only; omega⟩
      dsimp only
      rw [e_Mdl_fairnessNow_13]
      simp only [↓e_Mdl_fairnessNow_0, ↓e_Mdl_fairnessNow_1, ↓e_Mdl_fairnessNow_2, ↓e_Mdl_fairnessNow_3, ↓e_Mdl_fairnessNow_4, ↓e_Mdl_fairnessNow_5, ↓e_Mdl_fairnessNow_8, ↓e_Mdl_fairnessNow_11, ↓e_Mdl_fairnessNow_15, ↓e_Mdl_fairnessNow_20, ↓e_Mdl_fairnessNow_23, ↓e_Mdl_fairnessNow_25, ↓e_Mdl_fairnessNow_30, ↓e_Mdl_fairnessNow_33, ↓e_Mdl_fairnessNow_35, ↓e_Mdl_fairnessNow_36, ↓e_Mdl_fairnessNow_38, ↓e_Mdl_fairnessNow_41, ↓e_Mdl_fairnessNow_42, ↓e_Mdl_fairnessNow_43, ↓e_Mdl_fairnessNow_44, ↓e_Mdl_fairnessNow_45, ↓e_Mdl_fairnessNow_47, ↓e_Mdl_fairnessNow_50, ↓e_Mdl_fairnessNow_51, ↓e_Mdl_fairnessNow_53, ↓e_Mdl_fairnessNow_56, ↓e_Mdl_fairnessNow_57, ↓e_Mdl_fairnessNow_58, ↓e_Mdl_fairnessNow_59, ↓e_Mdl_fairnessNow_60, ↓e_Mdl_fairnessNow_63, ↓e_Mdl_fairnessNow_64, ↓e_Mdl_fairnessNow_65, ↓e_Mdl_fairnessNow_66, ↓e_Mdl_fairnessNow_69, ↓e_Mdl_fairnessNow_70, ↓e_Mdl_fairnessNow_73, ↓e_Mdl_fairnessNow_74, ↓e_Mdl_fairnessNow_75, ↓e_Mdl_fairnessNow_76, ↓e_Mdl_fairnessNow_77, ↓e_Mdl_fairnessNow_80, ↓e_Mdl_fairnessNow_83, ↓e_Mdl_fairnessNow_84, ↓e_Mdl_fairnessNow_85, ↓e_Mdl_fairnessNow_86, ↓e_Mdl_fairnessNow_87, not_true_eq_false, not_false_eq_true, one0, true_or, or_true, eq_self, bI_z, bI_nz, bI_o, b_ft, bI_1, bI_0, ↓kC_l, ↓kC_r, Option.toList_some, Option.toList_none, List.cons_append, List.nil_append, s1_0, s1_1i, s1_1r, s1_1w, s1_1n, s1_s, s2_0, s2_1i, s2_1r, s2_1w, s2_1n, s2_s, gI_sI, gI_sR, gI_sL, gI_sD, gR_sI, gR_sR, gR_sL, gR_sD, gL_sI, gL_sR, gL_sL, gL_sD, gD_sI, gD_sR, gD_sL, gD_sD, isK_sI, isK_sR, isK_sL, isK_sD, inL_sI, inL_sR, inL_sL, inL_sD, nx_sI, nx_sR, nx_sL, nx_sD, kd_sI, kd_sR, kd_sL, kd_sD, ln_sI, ln_sR, ln_sL, ln_sD, ↓reduceIte, c8_n, c8_1, c8_2, c8_3, c8_4, Nat.reduceAdd, k3, q_zhas _ Lg I (show k ≤ n by omega), hk, decide_true, f4, Rg'.nk hk, Rg'.nz hk, ea, di_ok d1, di_ok dm, di_ok d2]) n 0 (FP.dconst0, FP.dconst0, h1, none) (by omega) ⟨di0, di0, i2, i3, i4, i5⟩
  dsimp only at e1 Ds Dt J I ng sg
  have Lg := L.sw J.sw hl (by omega)
  have Rg := R.sw J.sw
  have k3 := I.1
  have pre : ∀ Q, WP Gm j_Mdl_fairnessNow 0 [some (.inr (.inl (some 121))), none, none, none, none, none, none] [] h Q = WP Gm j_Mdl_fairnessNow 63 [some (.inr (.inl (some 121))), some (.inr (.inr (.inr s))), none, some (.inr (.inr (.inr t))), none, some (.inr (.inl (some (nx h)))), v6] [] g Q := by
    intro Q
    have pre1 : WP Gm j_Mdl_fairnessNow 0 [some (.inr (.inl (some 121))), none, none, none, none, none, none] [] h Q = WP Gm j_Mdl_fairnessNow 13 [some (.inr (.inl (some 121))), some (.inr (.inr (.inr FP.dconst0))), none, some (.inr (.inr (.inr FP.dconst0))), none, some (.inr (.inl (some (nx h)))), none] [] h1 Q := by
      simp only [↓e_Mdl_fairnessNow_0, ↓e_Mdl_fairnessNow_1, ↓e_Mdl_fairnessNow_2, ↓e_Mdl_fairnessNow_3, ↓e_Mdl_fairnessNow_4, ↓e_Mdl_fairnessNow_5, ↓e_Mdl_fairnessNow_8, ↓e_Mdl_fairnessNow_11, ↓e_Mdl_fairnessNow_15, ↓e_Mdl_fairnessNow_20, ↓e_Mdl_fairnessNow_23, ↓e_Mdl_fairnessNow_25, ↓e_Mdl_fairnessNow_30, ↓e_Mdl_fairnessNow_33, ↓e_Mdl_fairnessNow_35, ↓e_Mdl_fairnessNow_36, ↓e_Mdl_fairnessNow_38, ↓e_Mdl_fairnessNow_41, ↓e_Mdl_fairnessNow_42, ↓e_Mdl_fairnessNow_43, ↓e_Mdl_fairnessNow_44, ↓e_Mdl_fairnessNow_45, ↓e_Mdl_fairnessNow_47, ↓e_Mdl_fairnessNow_50, ↓e_Mdl_fairnessNow_51, ↓e_Mdl_fairnessNow_53, ↓e_Mdl_fairnessNow_56, ↓e_Mdl_fairnessNow_57, ↓e_Mdl_fairnessNow_58, ↓e_Mdl_fairnessNow_59, ↓e_Mdl_fairnessNow_60, ↓e_Mdl_fairnessNow_64, ↓e_Mdl_fairnessNow_65, ↓e_Mdl_fairnessNow_66, ↓e_Mdl_fairnessNow_69, ↓e_Mdl_fairnessNow_70, ↓e_Mdl_fairnessNow_73, ↓e_Mdl_fairnessNow_74, ↓e_Mdl_fairnessNow_75, ↓e_Mdl_fairnessNow_76, ↓e_Mdl_fairnessNow_77, ↓e_Mdl_fairnessNow_80, ↓e_Mdl_fairnessNow_83, ↓e_Mdl_fairnessNow_84, ↓e_Mdl_fairnessNow_85, ↓e_Mdl_fairnessNow_86, ↓e_Mdl_fairnessNow_87, not_true_eq_false, not_false_eq_true, one0, true_or, or_true, eq_self, bI_z, bI_nz, bI_o, b_ft, bI_1, bI_0, ↓kC_l, ↓kC_r, Option.toList_some, Option.toList_none, List.cons_append, List.nil_append, s1_0, s1_1i, s1_1r, s1_1w, s1_1n, s1_s, s2_0, s2_1i, s2_1r, s2_1w, s2_1n, s2_s, gI_sI, gI_sR, gI_sL, gI_sD, gR_sI, gR_sR, gR_sL, gR_sD, gL_sI, gL_sR, gL_sL, gL_sD, gD_sI, gD_sR, gD_sL, gD_sD, isK_sI, isK_sR, isK_sL, isK_sD, inL_sI, inL_sR, inL_sL, inL_sD, nx_sI, nx_sR, nx_sL, nx_sD, kd_sI, kd_sR, kd_sL, kd_sD, ln_sI, ln_sR, ln_sL, ln_sD, ↓reduceIte, c8_n, c8_1, c8_2, c8_3, c8_4, Nat.reduceAdd, R.k, R.r9, R.k122, i1]
    rw [pre1, e1 Q, e_Mdl_fairnessNow_13]
    simp only [↓e_Mdl_fairnessNow_0, ↓e_Mdl_fairnessNow_1, ↓e_Mdl_fairnessNow_2, ↓e_Mdl_fairnessNow_3, ↓e_Mdl_fairnessNow_4, ↓e_Mdl_fairnessNow_5, ↓e_Mdl_fairnessNow_8, ↓e_Mdl_fairnessNow_11, ↓e_Mdl_fairnessNow_15, ↓e_Mdl_fairnessNow_20, ↓e_Mdl_fairnessNow_23, ↓e_Mdl_fairnessNow_25, ↓e_Mdl_fairnessNow_30, ↓e_Mdl_fairnessNow_33, ↓e_Mdl_fairnessNow_35, ↓e_Mdl_fairnessNow_36, ↓e_Mdl_fairnessNow_38, ↓e_Mdl_fairnessNow_41, ↓e_Mdl_fairnessNow_42, ↓e_Mdl_fairnessNow_43, ↓e_Mdl_fairnessNow_44, ↓e_Mdl_fairnessNow_45, ↓e_Mdl_fairnessNow_47, ↓e_Mdl_fairnessNow_50, ↓e_Mdl_fairnessNow_51, ↓e_Mdl_fairnessNow_53, ↓e_Mdl_fairnessNow_56, ↓e_Mdl_fairnessNow_57, ↓e_Mdl_fairnessNow_58, ↓e_Mdl_fairnessNow_59, ↓e_Mdl_fairnessNow_60, ↓e_Mdl_fairnessNow_64, ↓e_Mdl_fairnessNow_65, ↓e_Mdl_fairnessNow_66, ↓e_Mdl_fairnessNow_69, ↓e_Mdl_fairnessNow_70, ↓e_Mdl_fairnessNow_73, ↓e_Mdl_fairnessNow_74, ↓e_Mdl_fairnessNow_75, ↓e_Mdl_fairnessNow_76, ↓e_Mdl_fairnessNow_77, ↓e_Mdl_fairnessNow_80, ↓e_Mdl_fairnessNow_83, ↓e_Mdl_fairnessNow_84, ↓e_Mdl_fairnessNow_85, ↓e_Mdl_fairnessNow_86, ↓e_Mdl_fairnessNow_87, not_true_eq_false, not_false_eq_true, one0, true_or, or_true, eq_self, bI_z, bI_nz, bI_o, b_ft, bI_1, bI_0, ↓kC_l, ↓kC_r, Option.toList_some, Option.toList_none, List.cons_append, List.nil_append, s1_0, s1_1i, s1_1r, s1_1w, s1_1n, s1_s, s2_0, s2_1i, s2_1r, s2_1w, s2_1n, s2_s, gI_sI, gI_sR, gI_sL, gI_sD, gR_sI, gR_sR, gR_sL, gR_sD, gL_sI, gL_sR, gL_sL, gL_sD, gD_sI, gD_sR, gD_sL, gD_sD, isK_sI, isK_sR, isK_sL, isK_sD, inL_sI, inL_sR, inL_sL, inL_sD, nx_sI, nx_sR, nx_sL, nx_sD, kd_sI, kd_sR, kd_sL, kd_sD, ln_sI, ln_sR, ln_sL, ln_sD, ↓reduceIte, c8_n, c8_1, c8_2, c8_3, c8_4, Nat.reduceAdd, k3, q_zhas _ Lg I (Nat.le_refl n), Nat.lt_irrefl, decide_false]
  generalize hs' : sumN (mair h p) n = S at *
  generalize ht' : sumN (fun i => mair h p i * mair h p i) n = T at *
  have hS16 : S ≤ 16000 := by omega
  have hSS : S * S ≤ 256000000 := Nat.mul_le_mul hS16 hS16
  have hT32 : T ≤ 32000000 := by omega
  have hnT : n * T ≤ 256000000 := Nat.mul_le_mul hn hT32
  by_cases h0 : T = 0
  · have ez : (Op.cmpValue (FP.dcmp t FP.dconst0) .l = 0) = True := by rw [di_zero Dt]; exact eq_true h0
    refine ⟨FP.dconst1, g, fun Q => ?_, J, ng, sg, by decide, okD_of fp_one.1, fp_one.2⟩
    rw [pre]
    simp only [↓e_Mdl_fairnessNow_0, ↓e_Mdl_fairnessNow_1, ↓e_Mdl_fairnessNow_2, ↓e_Mdl_fairnessNow_3, ↓e_Mdl_fairnessNow_4, ↓e_Mdl_fairnessNow_5, ↓e_Mdl_fairnessNow_8, ↓e_Mdl_fairnessNow_11, ↓e_Mdl_fairnessNow_15, ↓e_Mdl_fairnessNow_20, ↓e_Mdl_fairnessNow_23, ↓e_Mdl_fairnessNow_25, ↓e_Mdl_fairnessNow_30, ↓e_Mdl_fairnessNow_33, ↓e_Mdl_fairnessNow_35, ↓e_Mdl_fairnessNow_36, ↓e_Mdl_fairnessNow_38, ↓e_Mdl_fairnessNow_41, ↓e_Mdl_fairnessNow_42, ↓e_Mdl_fairnessNow_43, ↓e_Mdl_fairnessNow_44, ↓e_Mdl_fairnessNow_45, ↓e_Mdl_fairnessNow_47, ↓e_Mdl_fairnessNow_50, ↓e_Mdl_fairnessNow_51, ↓e_Mdl_fairnessNow_53, ↓e_Mdl_fairnessNow_56, ↓e_Mdl_fairnessNow_57, ↓e_Mdl_fairnessNow_58, ↓e_Mdl_fairnessNow_59, ↓e_Mdl_fairnessNow_60, ↓e_Mdl_fairnessNow_63, ↓e_Mdl_fairnessNow_64, ↓e_Mdl_fairnessNow_65, ↓e_Mdl_fairnessNow_66, ↓e_Mdl_fairnessNow_69, ↓e_Mdl_fairnessNow_70, ↓e_Mdl_fairnessNow_73, ↓e_Mdl_fairnessNow_74, ↓e_Mdl_fairnessNow_75, ↓e_Mdl_fairnessNow_76, ↓e_Mdl_fairnessNow_77, ↓e_Mdl_fairnessNow_80, ↓e_Mdl_fairnessNow_83, ↓e_Mdl_fairnessNow_84, ↓e_Mdl_fairnessNow_85, ↓e_Mdl_fairnessNow_86, ↓e_Mdl_fairnessNow_87, not_true_eq_false, not_false_eq_true, one0, true_or, or_true, eq_self, bI_z, bI_nz, bI_o, b_ft, bI_1, bI_0, ↓kC_l, ↓kC_r, Option.toList_some, Option.toList_none, List.cons_append, List.nil_append, s1_0, s1_1i, s1_1r, s1_1w, s1_1n, s1_s, s2_0, s2_1i, s2_1r, s2_1w, s2_1n, s2_s, gI_sI, gI_sR, gI_sL, gI_sD, gR_sI, gR_sR, gR_sL, gR_sD, gL_sI, gL_sR, gL_sL, gL_sD, gD_sI, gD_sR, gD_sL, gD_sD, isK_sI, isK_sR, isK_sL, isK_sD, inL_sI, inL_sR, inL_sL, inL_sD, nx_sI, nx_sR, nx_sL, nx_sD, kd_sI, kd_sR, kd_sL, kd_sD, ln_sI, ln_sR, ln_sL, ln_sD, ↓reduceIte, c8_n, c8_1, c8_2, c8_3, c8_4, Nat.reduceAdd, ez]
  · have ez : (Op.cmpValue (FP.dcmp t FP.dconst0) .l = 0) = False := by rw [di_zero Dt]; exact eq_false h0
    have hn0 : 0 < n := by
      rcases Nat.eq_zero_or_pos n with e | e
      · subst e
        exact absurd ht'.symm h0
      · exact e
    have hnT0 : 0 < n * T := Nat.mul_pos hn0 (by omega)
    have dss := di_mul Ds Ds (by omega)
    have dn := di_i2d (show n < 2147483648 by omega)
    have dnt := di_mul dn Dt (by omega)
    have ea : (jl (S * S)).toInt = ((S * S : Nat) : Int) := jl_int (by omega)
    have eb : (jl (n * T)).toInt = ((n * T : Nat) : Int) := jl_int (by omega)
    obtain ⟨f1, f2, f3⟩ := fp_fair (a := jl (S * S)) (b := jl (n * T)) (by rw [ea]; exact Int.natCast_nonneg _) (by rw [ea, eb]; exact Int.ofNat_le.mpr hC) (by rw [eb]; exact Int.natCast_pos.mpr hnT0) (by rw [eb]; omega)
    have hS0 : 0 < S * S := by
      rcases Nat.eq_zero_or_pos S with e | e
      · exfalso
        refine h0 ?_
        rw [← ht']
        refine sumN_zero fun i hi => ?_
        have := sumN_zero_of (f := mair h p) (by rw [hs']; exact e) i hi
        rw [this]
      · exact Nat.mul_pos e e
    have e3 : FP.dmul s s = FP.l2d (jl (S * S)) := di_eq hS0 (by omega) dss
    have e4 : FP.dmul (FP.i2d (ii n)) t = FP.l2d (jl (n * T)) := di_eq hnT0 (by omega) dnt
    have o3 : okD (FP.l2d (jl (S * S))) = true := by rw [← e3]; exact di_ok dss
    have o4 : okD (FP.l2d (jl (n * T))) = true := by rw [← e4]; exact di_ok dnt
    refine ⟨FP.ddiv (FP.l2d (jl (S * S))) (FP.l2d (jl (n * T))), g, fun Q => ?_, J, ng, sg, okD_of f1, okD_of f2, f3⟩
    rw [pre]
    simp only [↓e_Mdl_fairnessNow_0, ↓e_Mdl_fairnessNow_1, ↓e_Mdl_fairnessNow_2, ↓e_Mdl_fairnessNow_3, ↓e_Mdl_fairnessNow_4, ↓e_Mdl_fairnessNow_5, ↓e_Mdl_fairnessNow_8, ↓e_Mdl_fairnessNow_11, ↓e_Mdl_fairnessNow_15, ↓e_Mdl_fairnessNow_20, ↓e_Mdl_fairnessNow_23, ↓e_Mdl_fairnessNow_25, ↓e_Mdl_fairnessNow_30, ↓e_Mdl_fairnessNow_33, ↓e_Mdl_fairnessNow_35, ↓e_Mdl_fairnessNow_36, ↓e_Mdl_fairnessNow_38, ↓e_Mdl_fairnessNow_41, ↓e_Mdl_fairnessNow_42, ↓e_Mdl_fairnessNow_43, ↓e_Mdl_fairnessNow_44, ↓e_Mdl_fairnessNow_45, ↓e_Mdl_fairnessNow_47, ↓e_Mdl_fairnessNow_50, ↓e_Mdl_fairnessNow_51, ↓e_Mdl_fairnessNow_53, ↓e_Mdl_fairnessNow_56, ↓e_Mdl_fairnessNow_57, ↓e_Mdl_fairnessNow_58, ↓e_Mdl_fairnessNow_59, ↓e_Mdl_fairnessNow_60, ↓e_Mdl_fairnessNow_63, ↓e_Mdl_fairnessNow_64, ↓e_Mdl_fairnessNow_65, ↓e_Mdl_fairnessNow_66, ↓e_Mdl_fairnessNow_69, ↓e_Mdl_fairnessNow_70, ↓e_Mdl_fairnessNow_73, ↓e_Mdl_fairnessNow_74, ↓e_Mdl_fairnessNow_75, ↓e_Mdl_fairnessNow_76, ↓e_Mdl_fairnessNow_77, ↓e_Mdl_fairnessNow_80, ↓e_Mdl_fairnessNow_83, ↓e_Mdl_fairnessNow_84, ↓e_Mdl_fairnessNow_85, ↓e_Mdl_fairnessNow_86, ↓e_Mdl_fairnessNow_87, not_true_eq_false, not_false_eq_true, one0, true_or, or_true, eq_self, bI_z, bI_nz, bI_o, b_ft, bI_1, bI_0, ↓kC_l, ↓kC_r, Option.toList_some, Option.toList_none, List.cons_append, List.nil_append, s1_0, s1_1i, s1_1r, s1_1w, s1_1n, s1_s, s2_0, s2_1i, s2_1r, s2_1w, s2_1n, s2_s, gI_sI, gI_sR, gI_sL, gI_sD, gR_sI, gR_sR, gR_sL, gR_sD, gL_sI, gL_sR, gL_sL, gL_sD, gD_sI, gD_sR, gD_sL, gD_sD, isK_sI, isK_sR, isK_sL, isK_sD, inL_sI, inL_sR, inL_sL, inL_sD, nx_sI, nx_sR, nx_sL, nx_sD, kd_sI, kd_sR, kd_sL, kd_sD, ln_sI, ln_sR, ln_sL, ln_sD, ↓reduceIte, c8_n, c8_1, c8_2, c8_3, c8_4, Nat.reduceAdd, ez, o3, o4, Rg.k, Rg.r9, Rg.k122, q_nn _ Rg, e3, e4, okD_of f1]
end MFA
