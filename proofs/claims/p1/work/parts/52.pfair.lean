/-! pfair: fairness, isSound -/
def jl (k : Nat) : Int64 := Int64.ofNat k
theorem jl_add (a b : Nat) : jl a + jl b = jl (a + b) := by unfold jl; rw [Int64.ofNat_add]
theorem jl_mul (a b : Nat) : jl a * jl b = jl (a * b) := by unfold jl; rw [Int64.ofNat_mul]
theorem jl_int {k : Nat} (hk : k < 9223372036854775808) : (jl k).toInt = (k : Int) := Int64.toInt_ofNat_of_lt hk
theorem ii_long {k : Nat} (hk : k < 2147483648) : (ii k).toInt64 = jl k := by
  apply Int64.toInt_inj.mp
  rw [Int32.toInt_toInt64, ii_int hk, jl_int (by omega)]
theorem two_sq (f c : Nat) : 2 * (f * c) ≤ f * f + c * c := by
  rcases Nat.le_total f c with h | h
  · obtain ⟨d, rfl⟩ := Nat.le.dest h
    have := Nat.mul_comm d f
    simp only [Nat.mul_add, Nat.add_mul]
    omega
  · obtain ⟨d, rfl⟩ := Nat.le.dest h
    have := Nat.mul_comm d c
    simp only [Nat.mul_add, Nat.add_mul]
    omega
theorem sum_cross (f : Nat → Nat) (c : Nat) : ∀ m : Nat, 2 * (sumN f m * c) ≤ sumN (fun i => f i * f i) m + m * (c * c)
  | 0 => by
    show 2 * (0 * c) ≤ _
    rw [Nat.zero_mul]
    exact Nat.zero_le _
  | m + 1 => by
    have h1 := sum_cross f c m
    have h2 := two_sq (f m) c
    show 2 * ((sumN f m + f m) * c) ≤ (sumN (fun i => f i * f i) m + f m * f m) + (m + 1) * (c * c)
    rw [Nat.add_mul, Nat.add_mul m 1, Nat.one_mul]
    omega
theorem cauchy (f : Nat → Nat) : ∀ m : Nat, sumN f m * sumN f m ≤ m * sumN (fun i => f i * f i) m
  | 0 => Nat.le_refl _
  | m + 1 => by
    have h1 := cauchy f m
    have h2 := sum_cross f (f m) m
    show (sumN f m + f m) * (sumN f m + f m) ≤ (m + 1) * (sumN (fun i => f i * f i) m + f m * f m)
    have e := Nat.mul_comm (f m) (sumN f m)
    rw [Nat.add_mul, Nat.mul_add, Nat.mul_add, Nat.add_mul, Nat.one_mul, Nat.mul_add]
    omega
section FA
variable {n B T : Nat} {h : Hp}
def fS (h : Hp) (x : Nat) : Nat := (gI h (5 + 9 * x) 10).toNatClampNeg
theorem fS_val (C : CV n B h) (hB : B ≤ 2000) {x : Nat} (hx : x < n) : gI h (5 + 9 * x) 10 = ii (fS h x) ∧ fS h x ≤ 2000 := by
  obtain ⟨a, b, p, r, q1, q2, q3, q4, q5, q6, q7, q8⟩ := C x hx
  have e : fS h x = a := by
    unfold fS
    rw [q1, ii_nat (by omega)]
  rw [e]
  exact ⟨q1, by omega⟩
theorem okD_of {x : UInt64} (hx : x &&& 0x7fffffffffffffff ≤ 0x7ff0000000000000) : okD x = true := decide_eq_true hx
theorem q_fairness (L : LV n B T h) (hB : B ≤ 2000) : ∃ fx : UInt64, (∀ Q, WP Gm j_S_fairness 0 [some (.inr (.inl (some 1))), none, none, none, none, none, none, none] [] h Q = Q (.inl (some (.inr (.inr (.inr fx))))) h) ∧
    okD (FP.dmul 4661225614328463360 fx) = true ∧ (FP.dcmp fx FP.dconst1 = some .lt ∨ FP.dcmp fx FP.dconst1 = some .eq) := by
  have S := L.1.1.1
  have C := L.2.1
  have hn := n8 S
  have hS : sumN (fS h) n ≤ 2000 * n := sumN_le fun i hi => (fS_val C hB hi).2
  have hT : sumN (fun i => fS h i * fS h i) n ≤ 4000000 * n := sumN_le fun i hi => Nat.mul_le_mul (fS_val C hB hi).2 (fS_val C hB hi).2
  have hC := cauchy (fS h) n
  obtain ⟨⟨s, t, w⟩, e1, i1, i2⟩ := loopR (fun Q k (a : Int64 × Int64 × Option MV) => WP Gm j_S_fairness 7 [some (.inr (.inl (some 1))), some (.inr (.inr (.inl a.1))), none, some (.inr (.inr (.inl a.2.1))), none, some (.inl (ii k)), a.2.2, none] [] h Q)
    (fun k a => a.1 = jl (sumN (fS h) k) ∧ a.2.1 = jl (sumN (fun i => fS h i * fS h i) k)) n
    (fun k a hk hI => by
      obtain ⟨s, t, w⟩ := a
      have hk8 := lt_8 (n8 S) hk
      have ha := (fS_val C hB hk).2
      dsimp only at hI ⊢
      obtain ⟨rfl, rfl⟩ := hI
      refine ⟨(jl (sumN (fS h) k + fS h k), jl (sumN (fun i => fS h i * fS h i) k + fS h k * fS h k), some (.inr (.inr (.inl (jl (fS h k)))))), fun Q => ?_, rfl, rfl⟩
      rw [e_S_fairness_7]
      simp only [↓e_S_fairness_0, ↓e_S_fairness_1, ↓e_S_fairness_2, ↓e_S_fairness_3, ↓e_S_fairness_4, ↓e_S_fairness_5, ↓e_S_fairness_9, ↓e_S_fairness_10, ↓e_S_fairness_13, ↓e_S_fairness_16, ↓e_S_fairness_19, ↓e_S_fairness_20, ↓e_S_fairness_23, ↓e_S_fairness_26, ↓e_S_fairness_28, ↓e_S_fairness_29, ↓e_S_fairness_32, ↓e_S_fairness_33, ↓e_S_fairness_35, ↓e_S_fairness_36, ↓e_S_fairness_38, ↓e_S_fairness_39, ↓e_S_fairness_40, ↓e_S_fairness_41, ↓e_S_fairness_43, ↓e_S_fairness_45, ↓e_S_fairness_46, ↓e_S_fairness_47, ↓e_S_fairness_48, ↓e_S_fairness_51, ↓e_S_fairness_54, ↓e_S_fairness_55, ↓e_S_fairness_56, ↓e_S_fairness_57, ↓e_S_fairness_60, ↓e_S_fairness_61, ↓e_S_fairness_62, ↓e_S_fairness_63, ↓e_S_fairness_64, ↓e_S_fairness_65, ↓e_S_fairness_66, ↓e_S_fairness_67, ↓e_S_fairness_70, ↓e_S_fairness_73, ↓e_S_fairness_74, ↓e_S_fairness_75, ↓e_S_fairness_76, ↓e_S_fairness_77, ↓e_S_fairness_78, not_true_eq_false, not_false_eq_true, one0, true_or, or_true, eq_self, bI_z, bI_nz, bI_o, b_ft, bI_1, bI_0, ↓kC_l, ↓kC_r, Option.toList_some, Option.toList_none, List.cons_append, List.nil_append, s1_0, s1_1i, s1_1r, s1_1w, s1_1n, s1_s, s2_0, s2_1i, s2_1r, s2_1w, s2_1n, s2_s, gI_sI, gI_sR, gI_sL, gI_sD, gR_sI, gR_sR, gR_sL, gR_sD, gL_sI, gL_sR, gL_sL, gL_sD, gD_sI, gD_sR, gD_sL, gD_sD, isK_sI, isK_sR, isK_sL, isK_sD, inL_sI, inL_sR, inL_sL, inL_sD, nx_sI, nx_sR, nx_sL, nx_sD, kd_sI, kd_sR, kd_sL, kd_sD, ln_sI, ln_sR, ln_sL, ln_sD, ↓reduceIte, c8_n, c8_1, c8_2, c8_3, c8_4, Nat.reduceAdd, k_s S, k_land S, k_nodes S, k_hear S, k_routes S, k_traffic S, k_market S, g_cnt S, r_land S, r_routes S, r_traffic S, r_market S, r_nodes S, r_hear S, r_rland S, r_tland S, r_troutes S, l_nodes S hk8, l_hear S hk8, r_node S hk8, r_queue S hk8, r_set S hk8, r_frames S hk8, r_bits S hk8, k_node S hk8, k_queue S hk8, k_frames S hk8, k_set S hk8, k_bits S hk8, ii_nat (lt31 hk8), le_f (n8 S) hk, (fS_val C hB hk).1, ii_long (show fS h k < 2147483648 by omega), jl_add, jl_mul, ii_succ]) n 0 (0, 0, none) (by omega) ⟨rfl, rfl⟩
  dsimp only at e1 i1 i2
  subst i1
  subst i2
  have pre : ∀ Q, WP Gm j_S_fairness 0 [some (.inr (.inl (some 1))), none, none, none, none, none, none, none] [] h Q = WP Gm j_S_fairness 7 [some (.inr (.inl (some 1))), some (.inr (.inr (.inl 0))), none, some (.inr (.inr (.inl 0))), none, some (.inl (ii 0)), none, none] [] h Q := by
    intro Q
    simp only [↓e_S_fairness_0, ↓e_S_fairness_1, ↓e_S_fairness_2, ↓e_S_fairness_3, ↓e_S_fairness_4, ↓e_S_fairness_5, ↓e_S_fairness_9, ↓e_S_fairness_10, ↓e_S_fairness_13, ↓e_S_fairness_16, ↓e_S_fairness_19, ↓e_S_fairness_20, ↓e_S_fairness_23, ↓e_S_fairness_26, ↓e_S_fairness_28, ↓e_S_fairness_29, ↓e_S_fairness_32, ↓e_S_fairness_33, ↓e_S_fairness_35, ↓e_S_fairness_36, ↓e_S_fairness_38, ↓e_S_fairness_39, ↓e_S_fairness_40, ↓e_S_fairness_41, ↓e_S_fairness_43, ↓e_S_fairness_45, ↓e_S_fairness_46, ↓e_S_fairness_47, ↓e_S_fairness_48, ↓e_S_fairness_51, ↓e_S_fairness_54, ↓e_S_fairness_55, ↓e_S_fairness_56, ↓e_S_fairness_57, ↓e_S_fairness_60, ↓e_S_fairness_61, ↓e_S_fairness_62, ↓e_S_fairness_63, ↓e_S_fairness_64, ↓e_S_fairness_65, ↓e_S_fairness_66, ↓e_S_fairness_67, ↓e_S_fairness_70, ↓e_S_fairness_73, ↓e_S_fairness_74, ↓e_S_fairness_75, ↓e_S_fairness_76, ↓e_S_fairness_77, ↓e_S_fairness_78, not_true_eq_false, not_false_eq_true, one0, true_or, or_true, eq_self, bI_z, bI_nz, bI_o, b_ft, bI_1, bI_0, ↓kC_l, ↓kC_r, Option.toList_some, Option.toList_none, List.cons_append, List.nil_append, s1_0, s1_1i, s1_1r, s1_1w, s1_1n, s1_s, s2_0, s2_1i, s2_1r, s2_1w, s2_1n, s2_s, gI_sI, gI_sR, gI_sL, gI_sD, gR_sI, gR_sR, gR_sL, gR_sD, gL_sI, gL_sR, gL_sL, gL_sD, gD_sI, gD_sR, gD_sL, gD_sD, isK_sI, isK_sR, isK_sL, isK_sD, inL_sI, inL_sR, inL_sL, inL_sD, nx_sI, nx_sR, nx_sL, nx_sD, kd_sI, kd_sR, kd_sL, kd_sD, ln_sI, ln_sR, ln_sL, ln_sD, ↓reduceIte, c8_n, c8_1, c8_2, c8_3, c8_4, Nat.reduceAdd]
    rfl
  generalize hs : sumN (fS h) n = s at *
  generalize ht : sumN (fun i => fS h i * fS h i) n = t at *
  have hss : s * s ≤ 256000000 := by
    have : s ≤ 16000 := by omega
    exact Nat.mul_le_mul this this
  have hnt : n * t ≤ 256000000 := by
    have : t ≤ 32000000 := by omega
    exact Nat.mul_le_mul hn this
  by_cases h0 : t = 0
  · refine ⟨FP.dconst1, fun Q => ?_, okD_of fp_one.1, fp_one.2⟩
    have ec : (0 < lg_cmp (jl t) 0) = False := by rw [h0]; exact eq_false (by decide)
    rw [pre]
    refine (e1 Q).trans ?_
    rw [e_S_fairness_7]
    simp only [↓e_S_fairness_0, ↓e_S_fairness_1, ↓e_S_fairness_2, ↓e_S_fairness_3, ↓e_S_fairness_4, ↓e_S_fairness_5, ↓e_S_fairness_9, ↓e_S_fairness_10, ↓e_S_fairness_13, ↓e_S_fairness_16, ↓e_S_fairness_19, ↓e_S_fairness_20, ↓e_S_fairness_23, ↓e_S_fairness_26, ↓e_S_fairness_28, ↓e_S_fairness_29, ↓e_S_fairness_32, ↓e_S_fairness_33, ↓e_S_fairness_35, ↓e_S_fairness_36, ↓e_S_fairness_38, ↓e_S_fairness_39, ↓e_S_fairness_40, ↓e_S_fairness_41, ↓e_S_fairness_43, ↓e_S_fairness_45, ↓e_S_fairness_46, ↓e_S_fairness_47, ↓e_S_fairness_48, ↓e_S_fairness_51, ↓e_S_fairness_54, ↓e_S_fairness_55, ↓e_S_fairness_56, ↓e_S_fairness_57, ↓e_S_fairness_60, ↓e_S_fairness_61, ↓e_S_fairness_62, ↓e_S_fairness_63, ↓e_S_fairness_64, ↓e_S_fairness_65, ↓e_S_fairness_66, ↓e_S_fairness_67, ↓e_S_fairness_70, ↓e_S_fairness_73, ↓e_S_fairness_74, ↓e_S_fairness_75, ↓e_S_fairness_76, ↓e_S_fairness_77, ↓e_S_fairness_78, not_true_eq_false, not_false_eq_true, one0, true_or, or_true, eq_self, bI_z, bI_nz, bI_o, b_ft, bI_1, bI_0, ↓kC_l, ↓kC_r, Option.toList_some, Option.toList_none, List.cons_append, List.nil_append, s1_0, s1_1i, s1_1r, s1_1w, s1_1n, s1_s, s2_0, s2_1i, s2_1r, s2_1w, s2_1n, s2_s, gI_sI, gI_sR, gI_sL, gI_sD, gR_sI, gR_sR, gR_sL, gR_sD, gL_sI, gL_sR, gL_sL, gL_sD, gD_sI, gD_sR, gD_sL, gD_sD, isK_sI, isK_sR, isK_sL, isK_sD, inL_sI, inL_sR, inL_sL, inL_sD, nx_sI, nx_sR, nx_sL, nx_sD, kd_sI, kd_sR, kd_sL, kd_sD, ln_sI, ln_sR, ln_sL, ln_sD, ↓reduceIte, c8_n, c8_1, c8_2, c8_3, c8_4, Nat.reduceAdd, k_s S, k_land S, k_nodes S, k_hear S, k_routes S, k_traffic S, k_market S, g_cnt S, r_land S, r_routes S, r_traffic S, r_market S, r_nodes S, r_hear S, r_rland S, r_tland S, r_troutes S, le_t (n8 S), ec]
  · have hn0 : 0 < n := by
      rcases Nat.eq_zero_or_pos n with e | e
      · subst e
        exact absurd ht.symm h0
      · exact e
    have hnt0 : 0 < n * t := Nat.mul_pos hn0 (by omega)
    have ea : (jl (s * s)).toInt = ((s * s : Nat) : Int) := jl_int (by omega)
    have eb : (jl (n * t)).toInt = ((n * t : Nat) : Int) := jl_int (by omega)
    obtain ⟨f1, f2, f3⟩ := fp_fair (a := jl (s * s)) (b := jl (n * t)) (by rw [ea]; exact Int.natCast_nonneg _) (by rw [ea, eb]; exact Int.ofNat_le.mpr hC) (by rw [eb]; exact Int.natCast_pos.mpr hnt0) (by rw [eb]; omega)
    have ec : (0 < lg_cmp (jl t) 0) = True := by
      refine eq_true ?_
      unfold lg_cmp
      rw [if_pos (show (0 : Int64) < jl t from Int64.lt_iff_toInt_lt.mpr (by rw [jl_int (by omega)]; show (0 : Int) < _; omega))]
      decide
    refine ⟨_, fun Q => ?_, okD_of f2, f3⟩
    rw [pre]
    refine (e1 Q).trans ?_
    rw [e_S_fairness_7]
    simp only [↓e_S_fairness_0, ↓e_S_fairness_1, ↓e_S_fairness_2, ↓e_S_fairness_3, ↓e_S_fairness_4, ↓e_S_fairness_5, ↓e_S_fairness_9, ↓e_S_fairness_10, ↓e_S_fairness_13, ↓e_S_fairness_16, ↓e_S_fairness_19, ↓e_S_fairness_20, ↓e_S_fairness_23, ↓e_S_fairness_26, ↓e_S_fairness_28, ↓e_S_fairness_29, ↓e_S_fairness_32, ↓e_S_fairness_33, ↓e_S_fairness_35, ↓e_S_fairness_36, ↓e_S_fairness_38, ↓e_S_fairness_39, ↓e_S_fairness_40, ↓e_S_fairness_41, ↓e_S_fairness_43, ↓e_S_fairness_45, ↓e_S_fairness_46, ↓e_S_fairness_47, ↓e_S_fairness_48, ↓e_S_fairness_51, ↓e_S_fairness_54, ↓e_S_fairness_55, ↓e_S_fairness_56, ↓e_S_fairness_57, ↓e_S_fairness_60, ↓e_S_fairness_61, ↓e_S_fairness_62, ↓e_S_fairness_63, ↓e_S_fairness_64, ↓e_S_fairness_65, ↓e_S_fairness_66, ↓e_S_fairness_67, ↓e_S_fairness_70, ↓e_S_fairness_73, ↓e_S_fairness_74, ↓e_S_fairness_75, ↓e_S_fairness_76, ↓e_S_fairness_77, ↓e_S_fairness_78, not_true_eq_false, not_false_eq_true, one0, true_or, or_true, eq_self, bI_z, bI_nz, bI_o, b_ft, bI_1, bI_0, ↓kC_l, ↓kC_r, Option.toList_some, Option.toList_none, List.cons_append, List.nil_append, s1_0, s1_1i, s1_1r, s1_1w, s1_1n, s1_s, s2_0, s2_1i, s2_1r, s2_1w, s2_1n, s2_s, gI_sI, gI_sR, gI_sL, gI_sD, gR_sI, gR_sR, gR_sL, gR_sD, gL_sI, gL_sR, gL_sL, gL_sD, gD_sI, gD_sR, gD_sL, gD_sD, isK_sI, isK_sR, isK_sL, isK_sD, inL_sI, inL_sR, inL_sL, inL_sD, nx_sI, nx_sR, nx_sL, nx_sD, kd_sI, kd_sR, kd_sL, kd_sD, ln_sI, ln_sR, ln_sL, ln_sD, ↓reduceIte, c8_n, c8_1, c8_2, c8_3, c8_4, Nat.reduceAdd, k_s S, k_land S, k_nodes S, k_hear S, k_routes S, k_traffic S, k_market S, g_cnt S, r_land S, r_routes S, r_traffic S, r_market S, r_nodes S, r_hear S, r_rland S, r_tland S, r_troutes S, le_t (n8 S), ec, ii_long (show n < 2147483648 by omega), jl_mul, okD_of f1]
theorem ord_true {i : Nat} (N : NI n h i) : ordF h i = true := by
  obtain ⟨⟨q, q1, q2, -⟩, ⟨t, t1, t2⟩, ⟨tc, c1, c2, c3⟩, -⟩ := N
  have a1 : (ii tc = 0) = (tc = 0) := ii_inj (j := 0) (by omega) (by omega)
  have a2 : ((0 : Int32) < ii q) = (0 < q) := ii_lt (i := 0) (by omega) (by omega)
  have a3 : ((1 : Int32) ≤ ii tc) = (1 ≤ tc) := ii_le (i := 1) (by omega) (by omega)
  have a4 : (ii tc ≤ (3 : Int32)) = (tc ≤ 3) := ii_le (j := 3) (by omega) (by omega)
  have a5 : (ii q ≤ (4 : Int32)) = (q ≤ 4) := ii_le (j := 4) (by omega) (by omega)
  have a6 : ((0 : Int32) ≤ ii t) = (0 ≤ t) := ii_le (i := 0) (by omega) (by omega)
  have a7 : (ii t ≤ (4 : Int32)) = (t ≤ 4) := ii_le (j := 4) (by omega) (by omega)
  have a8 : (ii q = 0) = (q = 0) := ii_inj (j := 0) (by omega) (by omega)
  rw [q2, a8] at c3
  unfold ordF
  simp only [q2, t2, c2, a1, a2, a3, a4, a5, a6, a7]
  simp only [Bool.and_eq_true, Bool.or_eq_true, decide_eq_true_eq]
  omega
theorem q_isSound (L : LV n B T h) (hB : B ≤ 2000) (Q : MRes → Hp → Prop) : WP Gm j_S_isSound 0 [some (.inr (.inl (some 1))), none, none] [] h Q = Q (.inl (some (.inl 1))) h := by
  obtain ⟨⟨A, c, c1, c2, M⟩, C, V, sl⟩ := id L
  obtain ⟨S, ⟨H, r, R, I1, I2⟩, N, ⟨lk, l1, l2⟩, D⟩ := id A
  have hn := n8 S
  obtain ⟨fx, e1, f1, f2⟩ := q_fairness L hB
  have step := loop0 (fun k (s : Nat) => WP Gm j_S_isSound 4 [some (.inr (.inl (some 1))), some (.inl (ii s)), some (.inl (ii k))] [] h Q) (fun k s => s + cnt (mb h k) 512) n
    (fun k s hk => by
      have hk8 := lt_8 (n8 S) hk
      rw [e_S_isSound_4]
      simp only [↓e_S_isSound_0, ↓e_S_isSound_1, ↓e_S_isSound_2, ↓e_S_isSound_3, ↓e_S_isSound_5, ↓e_S_isSound_6, ↓e_S_isSound_9, ↓e_S_isSound_12, ↓e_S_isSound_15, ↓e_S_isSound_16, ↓e_S_isSound_19, ↓e_S_isSound_22, ↓e_S_isSound_23, ↓e_S_isSound_24, ↓e_S_isSound_27, ↓e_S_isSound_30, ↓e_S_isSound_31, ↓e_S_isSound_34, ↓e_S_isSound_35, ↓e_S_isSound_38, ↓e_S_isSound_41, ↓e_S_isSound_42, ↓e_S_isSound_43, ↓e_S_isSound_44, ↓e_S_isSound_45, ↓e_S_isSound_48, ↓e_S_isSound_51, ↓e_S_isSound_52, ↓e_S_isSound_53, ↓e_S_isSound_56, ↓e_S_isSound_59, ↓e_S_isSound_60, ↓e_S_isSound_61, ↓e_S_isSound_64, ↓e_S_isSound_67, ↓e_S_isSound_68, ↓e_S_isSound_71, ↓e_S_isSound_74, ↓e_S_isSound_75, ↓e_S_isSound_78, ↓e_S_isSound_79, ↓e_S_isSound_82, ↓e_S_isSound_83, ↓e_S_isSound_84, ↓e_S_isSound_87, ↓e_S_isSound_88, ↓e_S_isSound_91, ↓e_S_isSound_94, ↓e_S_isSound_97, ↓e_S_isSound_98, ↓e_S_isSound_101, ↓e_S_isSound_102, not_true_eq_false, not_false_eq_true, one0, true_or, or_true, eq_self, bI_z, bI_nz, bI_o, b_ft, bI_1, bI_0, ↓kC_l, ↓kC_r, Option.toList_some, Option.toList_none, List.cons_append, List.nil_append, s1_0, s1_1i, s1_1r, s1_1w, s1_1n, s1_s, s2_0, s2_1i, s2_1r, s2_1w, s2_1n, s2_s, gI_sI, gI_sR, gI_sL, gI_sD, gR_sI, gR_sR, gR_sL, gR_sD, gL_sI, gL_sR, gL_sL, gL_sD, gD_sI, gD_sR, gD_sL, gD_sD, isK_sI, isK_sR, isK_sL, isK_sD, inL_sI, inL_sR, inL_sL, inL_sD, nx_sI, nx_sR, nx_sL, nx_sD, kd_sI, kd_sR, kd_sL, kd_sD, ln_sI, ln_sR, ln_sL, ln_sD, ↓reduceIte, c8_n, c8_1, c8_2, c8_3, c8_4, Nat.reduceAdd, k_s S, k_land S, k_nodes S, k_hear S, k_routes S, k_traffic S, k_market S, g_cnt S, r_land S, r_routes S, r_traffic S, r_market S, r_nodes S, r_hear S, r_rland S, r_tland S, r_troutes S, l_nodes S hk8, l_hear S hk8, r_node S hk8, r_queue S hk8, r_set S hk8, r_frames S hk8, r_bits S hk8, k_node S hk8, k_queue S hk8, k_frames S hk8, k_set S hk8, k_bits S hk8, ii_nat (lt31 hk8), le_f (n8 S) hk, q_isInOrder _ S hk8, ord_true (N k hk), q_areInOrder S R I1 hk, q_size2 _ S hk8, ii_add, ii_succ]) n 0 0 (by omega)
  have esum : ∀ m k s, upto (fun k s => s + cnt (mb h k) 512) m k s = s + (sumN (fun i => cnt (mb h i) 512) (k + m) - sumN (fun i => cnt (mb h i) 512) k) ∧ sumN (fun i => cnt (mb h i) 512) k ≤ sumN (fun i => cnt (mb h i) 512) (k + m) := by
    intro m
    induction m with
    | zero => intro k s; exact ⟨by rw [Nat.add_zero, Nat.sub_self]; rfl, Nat.le_refl _⟩
    | succ m ih =>
      intro k s
      obtain ⟨i1, i2⟩ := ih (k + 1) (s + cnt (mb h k) 512)
      have e : sumN (fun i => cnt (mb h i) 512) (k + 1) = sumN (fun i => cnt (mb h i) 512) k + cnt (mb h k) 512 := rfl
      rw [show k + (m + 1) = k + 1 + m by omega]
      refine ⟨?_, by omega⟩
      show upto (fun k s => s + cnt (mb h k) 512) m (k + 1) (s + cnt (mb h k) 512) = _
      rw [i1]
      omega
  have e2 : upto (fun k s => s + cnt (mb h k) 512) n 0 0 = sumN (fun i => cnt (mb h i) 512) n := by
    rw [(esum n 0 0).1, Nat.zero_add, Nat.zero_add]
    exact Nat.sub_zero _
  rw [e2] at step
  have ecmp : (0 < Op.cmpValue (FP.dcmp fx FP.dconst1) .g) = False := by
    rcases f2 with f2 | f2 <;> (rw [f2]; exact eq_false (by decide))
  unfold DS at D
  have pre : WP Gm j_S_isSound 0 [some (.inr (.inl (some 1))), none, none] [] h Q = WP Gm j_S_isSound 4 [some (.inr (.inl (some 1))), some (.inl (ii 0)), some (.inl (ii 0))] [] h Q := by
    simp only [↓e_S_isSound_0, ↓e_S_isSound_1, ↓e_S_isSound_2, ↓e_S_isSound_3, ↓e_S_isSound_5, ↓e_S_isSound_6, ↓e_S_isSound_9, ↓e_S_isSound_12, ↓e_S_isSound_15, ↓e_S_isSound_16, ↓e_S_isSound_19, ↓e_S_isSound_22, ↓e_S_isSound_23, ↓e_S_isSound_24, ↓e_S_isSound_27, ↓e_S_isSound_30, ↓e_S_isSound_31, ↓e_S_isSound_34, ↓e_S_isSound_35, ↓e_S_isSound_38, ↓e_S_isSound_41, ↓e_S_isSound_42, ↓e_S_isSound_43, ↓e_S_isSound_44, ↓e_S_isSound_45, ↓e_S_isSound_48, ↓e_S_isSound_51, ↓e_S_isSound_52, ↓e_S_isSound_53, ↓e_S_isSound_56, ↓e_S_isSound_59, ↓e_S_isSound_60, ↓e_S_isSound_61, ↓e_S_isSound_64, ↓e_S_isSound_67, ↓e_S_isSound_68, ↓e_S_isSound_71, ↓e_S_isSound_74, ↓e_S_isSound_75, ↓e_S_isSound_78, ↓e_S_isSound_79, ↓e_S_isSound_82, ↓e_S_isSound_83, ↓e_S_isSound_84, ↓e_S_isSound_87, ↓e_S_isSound_88, ↓e_S_isSound_91, ↓e_S_isSound_94, ↓e_S_isSound_97, ↓e_S_isSound_98, ↓e_S_isSound_101, ↓e_S_isSound_102, not_true_eq_false, not_false_eq_true, one0, true_or, or_true, eq_self, bI_z, bI_nz, bI_o, b_ft, bI_1, bI_0, ↓kC_l, ↓kC_r, Option.toList_some, Option.toList_none, List.cons_append, List.nil_append, s1_0, s1_1i, s1_1r, s1_1w, s1_1n, s1_s, s2_0, s2_1i, s2_1r, s2_1w, s2_1n, s2_s, gI_sI, gI_sR, gI_sL, gI_sD, gR_sI, gR_sR, gR_sL, gR_sD, gL_sI, gL_sR, gL_sL, gL_sD, gD_sI, gD_sR, gD_sL, gD_sD, isK_sI, isK_sR, isK_sL, isK_sD, inL_sI, inL_sR, inL_sL, inL_sD, nx_sI, nx_sR, nx_sL, nx_sD, kd_sI, kd_sR, kd_sL, kd_sD, ln_sI, ln_sR, ln_sL, ln_sD, ↓reduceIte, c8_n, c8_1, c8_2, c8_3, c8_4, Nat.reduceAdd]
    rfl
  rw [pre]
  refine step.trans ?_
  rw [e_S_isSound_4]
  simp only [↓e_S_isSound_0, ↓e_S_isSound_1, ↓e_S_isSound_2, ↓e_S_isSound_3, ↓e_S_isSound_5, ↓e_S_isSound_6, ↓e_S_isSound_9, ↓e_S_isSound_12, ↓e_S_isSound_15, ↓e_S_isSound_16, ↓e_S_isSound_19, ↓e_S_isSound_22, ↓e_S_isSound_23, ↓e_S_isSound_24, ↓e_S_isSound_27, ↓e_S_isSound_30, ↓e_S_isSound_31, ↓e_S_isSound_34, ↓e_S_isSound_35, ↓e_S_isSound_38, ↓e_S_isSound_41, ↓e_S_isSound_42, ↓e_S_isSound_43, ↓e_S_isSound_44, ↓e_S_isSound_45, ↓e_S_isSound_48, ↓e_S_isSound_51, ↓e_S_isSound_52, ↓e_S_isSound_53, ↓e_S_isSound_56, ↓e_S_isSound_59, ↓e_S_isSound_60, ↓e_S_isSound_61, ↓e_S_isSound_64, ↓e_S_isSound_67, ↓e_S_isSound_68, ↓e_S_isSound_71, ↓e_S_isSound_74, ↓e_S_isSound_75, ↓e_S_isSound_78, ↓e_S_isSound_79, ↓e_S_isSound_82, ↓e_S_isSound_83, ↓e_S_isSound_84, ↓e_S_isSound_87, ↓e_S_isSound_88, ↓e_S_isSound_91, ↓e_S_isSound_94, ↓e_S_isSound_97, ↓e_S_isSound_98, ↓e_S_isSound_101, ↓e_S_isSound_102, not_true_eq_false, not_false_eq_true, one0, true_or, or_true, eq_self, bI_z, bI_nz, bI_o, b_ft, bI_1, bI_0, ↓kC_l, ↓kC_r, Option.toList_some, Option.toList_none, List.cons_append, List.nil_append, s1_0, s1_1i, s1_1r, s1_1w, s1_1n, s1_s, s2_0, s2_1i, s2_1r, s2_1w, s2_1n, s2_s, gI_sI, gI_sR, gI_sL, gI_sD, gR_sI, gR_sR, gR_sL, gR_sD, gL_sI, gL_sR, gL_sL, gL_sD, gD_sI, gD_sR, gD_sL, gD_sD, isK_sI, isK_sR, isK_sL, isK_sD, inL_sI, inL_sR, inL_sL, inL_sD, nx_sI, nx_sR, nx_sL, nx_sD, kd_sI, kd_sR, kd_sL, kd_sD, ln_sI, ln_sR, ln_sL, ln_sD, ↓reduceIte, c8_n, c8_1, c8_2, c8_3, c8_4, Nat.reduceAdd, k_s S, k_land S, k_nodes S, k_hear S, k_routes S, k_traffic S, k_market S, g_cnt S, r_land S, r_routes S, r_traffic S, r_market S, r_nodes S, r_hear S, r_rland S, r_tland S, r_troutes S, le_t (n8 S), D, e1, ecmp, q_nobody _ S c2 c1, nob_true M c1]
end FA
