/-! plist: the reference's lists: size, isEmpty, get -/
/-- a list l of k elements in the row a -/
def Li (h : Hp) (l a k : Nat) : Prop := isK h l kc_ArrayList = true ∧ gR h l 1 = some a ∧ gI h l 2 = ii k ∧ k < 1000000 ∧ ((a = eD ∧ k = 0) ∨ (isK h a 106 = true ∧ k ≤ ln h a ∧ a ≠ 0 ∧ a ≠ eD ∧ ln h a < 1000000))
theorem Li.k {h : Hp} {l a k : Nat} (L : Li h l a k) : isK h l kc_ArrayList = true := L.1
theorem Li.r {h : Hp} {l a k : Nat} (L : Li h l a k) : gR h l 1 = some a := L.2.1
theorem Li.s {h : Hp} {l a k : Nat} (L : Li h l a k) : gI h l 2 = ii k := L.2.2.1
theorem Li.b {h : Hp} {l a k : Nat} (L : Li h l a k) : k < 1000000 := L.2.2.2.1
theorem Li.d {h : Hp} {l a k : Nat} (L : Li h l a k) : (a = eD ∧ k = 0) ∨ (isK h a 106 = true ∧ k ≤ ln h a ∧ a ≠ 0 ∧ a ≠ eD ∧ ln h a < 1000000) := L.2.2.2.2
theorem z_ii : (0 : Int32) = ii 0 := rfl
theorem ii_z0 {k : Nat} (hk : k < 2147483648) : (ii k = 0) = (k = 0) := by rw [z_ii, ii_inj hk (by omega)]
theorem ii_neg {k : Nat} (hk : k < 2147483648) : (ii k < 0) = False := by
  rw [z_ii, ii_lt hk (by omega)]
  exact eq_false (by omega)
section LI
variable {h : Hp} {l a k : Nat} (Q : MRes → Hp → Prop)
theorem Li.row (L : Li h l a k) {i : Nat} (hi : i < k) : isK h a 106 = true ∧ i < ln h a ∧ a ≠ 0 := by
  rcases L.d with ⟨-, h1⟩ | ⟨h1, h2, h3, -⟩
  · omega
  · exact ⟨h1, by omega, h3⟩
theorem Li.row2 (L : Li h l a k) {i : Nat} (hi : i < k) : a ≠ eD ∧ ln h a < 1000000 := by
  rcases L.d with ⟨-, h1⟩ | ⟨h1, h2, h3, h4, h5⟩
  · omega
  · exact ⟨h4, h5⟩
theorem q_lsize (L : Li h l a k) : WP Gm j_ArrayList_size 0 [some (.inr (.inl (some l)))] [] h Q = Q (.inl (some (.inl (ii k)))) h := by
  simp only [↓e_ArrayList_size_0, ↓e_ArrayList_size_1, ↓e_ArrayList_size_4, not_true_eq_false, not_false_eq_true, one0, true_or, or_true, eq_self, bI_z, bI_nz, bI_o, b_ft, bI_1, bI_0, ↓kC_l, ↓kC_r, Option.toList_some, Option.toList_none, List.cons_append, List.nil_append, s1_0, s1_1i, s1_1r, s1_1w, s1_1n, s1_s, s2_0, s2_1i, s2_1r, s2_1w, s2_1n, s2_s, gI_sI, gI_sR, gI_sL, gI_sD, gR_sI, gR_sR, gR_sL, gR_sD, gL_sI, gL_sR, gL_sL, gL_sD, gD_sI, gD_sR, gD_sL, gD_sD, isK_sI, isK_sR, isK_sL, isK_sD, inL_sI, inL_sR, inL_sL, inL_sD, nx_sI, nx_sR, nx_sL, nx_sD, kd_sI, kd_sR, kd_sL, kd_sD, ln_sI, ln_sR, ln_sL, ln_sD, ↓reduceIte, c8_n, c8_1, c8_2, c8_3, c8_4, Nat.reduceAdd, L.k, L.s]
theorem q_lempty (L : Li h l a k) : WP Gm j_ArrayList_isEmpty 0 [some (.inr (.inl (some l)))] [] h Q = Q (.inl (some (.inl (bI (decide (k = 0)))))) h := by
  have hb := L.b
  simp only [↓e_ArrayList_isEmpty_0, ↓e_ArrayList_isEmpty_1, ↓e_ArrayList_isEmpty_4, ↓e_ArrayList_isEmpty_7, ↓e_ArrayList_isEmpty_8, ↓e_ArrayList_isEmpty_11, ↓e_ArrayList_isEmpty_12, not_true_eq_false, not_false_eq_true, one0, true_or, or_true, eq_self, bI_z, bI_nz, bI_o, b_ft, bI_1, bI_0, ↓kC_l, ↓kC_r, Option.toList_some, Option.toList_none, List.cons_append, List.nil_append, s1_0, s1_1i, s1_1r, s1_1w, s1_1n, s1_s, s2_0, s2_1i, s2_1r, s2_1w, s2_1n, s2_s, gI_sI, gI_sR, gI_sL, gI_sD, gR_sI, gR_sR, gR_sL, gR_sD, gL_sI, gL_sR, gL_sL, gL_sD, gD_sI, gD_sR, gD_sL, gD_sD, isK_sI, isK_sR, isK_sL, isK_sD, inL_sI, inL_sR, inL_sL, inL_sD, nx_sI, nx_sR, nx_sL, nx_sD, kd_sI, kd_sR, kd_sL, kd_sD, ln_sI, ln_sR, ln_sL, ln_sD, ↓reduceIte, c8_n, c8_1, c8_2, c8_3, c8_4, Nat.reduceAdd, L.k, L.s, ii_z0 (show k < 2147483648 by omega)]
  by_cases h0 : k = 0
  · simp [h0, bI]
  · simp [h0, bI]
theorem q_checkIndex {i : Nat} (hi : i < k) (hk : k < 1000000) : WP Gm j_Objects_checkIndex 0 [some (.inl (ii i)), some (.inl (ii k))] [] h Q = Q (.inl (some (.inl (ii i)))) h := by
  have e1 : (ii i < ii k) = (i < k) := ii_lt (by omega) (by omega)
  simp only [↓e_Objects_checkIndex_0, ↓e_Objects_checkIndex_1, ↓e_Objects_checkIndex_2, ↓e_Objects_checkIndex_3, ↓e_Objects_checkIndex_6, ↓e_Preconditions_checkIndex_0, ↓e_Preconditions_checkIndex_1, ↓e_Preconditions_checkIndex_4, ↓e_Preconditions_checkIndex_5, ↓e_Preconditions_checkIndex_6, ↓e_Preconditions_checkIndex_16, ↓e_Preconditions_checkIndex_17, not_true_eq_false, not_false_eq_true, one0, true_or, or_true, eq_self, bI_z, bI_nz, bI_o, b_ft, bI_1, bI_0, ↓kC_l, ↓kC_r, Option.toList_some, Option.toList_none, List.cons_append, List.nil_append, s1_0, s1_1i, s1_1r, s1_1w, s1_1n, s1_s, s2_0, s2_1i, s2_1r, s2_1w, s2_1n, s2_s, gI_sI, gI_sR, gI_sL, gI_sD, gR_sI, gR_sR, gR_sL, gR_sD, gL_sI, gL_sR, gL_sL, gL_sD, gD_sI, gD_sR, gD_sL, gD_sD, isK_sI, isK_sR, isK_sL, isK_sD, inL_sI, inL_sR, inL_sL, inL_sD, nx_sI, nx_sR, nx_sL, nx_sD, kd_sI, kd_sR, kd_sL, kd_sD, ln_sI, ln_sR, ln_sL, ln_sD, ↓reduceIte, c8_n, c8_1, c8_2, c8_3, c8_4, Nat.reduceAdd, ii_neg (show i < 2147483648 by omega), e1, hi]
theorem q_lget (L : Li h l a k) {i : Nat} (hi : i < k) : WP Gm j_ArrayList_get 0 [some (.inr (.inl (some l))), some (.inl (ii i))] [] h Q = Q (.inl (some (.inr (.inl (gR h a i))))) h := by
  have hb := L.b
  obtain ⟨r1, r2, -⟩ := L.row hi
  simp only [↓e_ArrayList_get_0, ↓e_ArrayList_get_1, ↓e_ArrayList_get_2, ↓e_ArrayList_get_5, ↓e_ArrayList_get_8, ↓e_ArrayList_get_9, ↓e_ArrayList_get_10, ↓e_ArrayList_get_11, ↓e_ArrayList_get_14, ↓e_ArrayList_elementData_0, ↓e_ArrayList_elementData_1, ↓e_ArrayList_elementData_4, ↓e_ArrayList_elementData_5, ↓e_ArrayList_elementData_6, not_true_eq_false, not_false_eq_true, one0, true_or, or_true, eq_self, bI_z, bI_nz, bI_o, b_ft, bI_1, bI_0, ↓kC_l, ↓kC_r, Option.toList_some, Option.toList_none, List.cons_append, List.nil_append, s1_0, s1_1i, s1_1r, s1_1w, s1_1n, s1_s, s2_0, s2_1i, s2_1r, s2_1w, s2_1n, s2_s, gI_sI, gI_sR, gI_sL, gI_sD, gR_sI, gR_sR, gR_sL, gR_sD, gL_sI, gL_sR, gL_sL, gL_sD, gD_sI, gD_sR, gD_sL, gD_sD, isK_sI, isK_sR, isK_sL, isK_sD, inL_sI, inL_sR, inL_sL, inL_sD, nx_sI, nx_sR, nx_sL, nx_sD, kd_sI, kd_sR, kd_sL, kd_sD, ln_sI, ln_sR, ln_sL, ln_sD, ↓reduceIte, c8_n, c8_1, c8_2, c8_3, c8_4, Nat.reduceAdd, L.k, L.s, L.r, q_checkIndex _ hi hb, r1, inL_n (show i < 2147483648 by omega) r2, ii_nat (show i < 2147483648 by omega)]
end LI
