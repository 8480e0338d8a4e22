/-! pmgeo: the reference's nodes; who hears whom -/
/-- the reference m, its nodes' list l with the row a, node i at p i -/
def Md (h : Hp) (m l a n : Nat) (p : Nat → Nat) : Prop := isK h m kc_Mdl = true ∧ gR h m 9 = some l ∧ Li h l a n ∧ n ≤ 8 ∧ ∀ i, i < n → gR h a i = some (p i) ∧ isK h (p i) kc_MNode = true ∧ ¬ p i = 0
section GEO
variable {h : Hp} {m l a n : Nat} {p : Nat → Nat} (Q : MRes → Hp → Prop)
def mfar (h : Hp) (x y : Nat) : Int32 := (gI h x 0 - gI h y 0) * (gI h x 0 - gI h y 0) + (gI h x 1 - gI h y 1) * (gI h x 1 - gI h y 1)
theorem q_mfar (M : Md h m l a n p) {i j : Nat} (hi : i < n) (hj : j < n) : WP Gm j_Mdl_far 0 [some (.inr (.inl (some m))), some (.inl (ii i)), some (.inl (ii j)), none, none] [] h Q = Q (.inl (some (.inl (mfar h (p i) (p j))))) h := by
  obtain ⟨m1, m2, L, m3, m4⟩ := M
  obtain ⟨i1, i2, i3⟩ := m4 i hi
  obtain ⟨j1, j2, j3⟩ := m4 j hj
  simp only [↓e_Mdl_far_0, ↓e_Mdl_far_1, ↓e_Mdl_far_4, ↓e_Mdl_far_5, ↓e_Mdl_far_8, ↓e_Mdl_far_11, ↓e_Mdl_far_14, ↓e_Mdl_far_15, ↓e_Mdl_far_18, ↓e_Mdl_far_19, ↓e_Mdl_far_22, ↓e_Mdl_far_25, ↓e_Mdl_far_28, ↓e_Mdl_far_29, ↓e_Mdl_far_30, ↓e_Mdl_far_31, ↓e_Mdl_far_34, ↓e_Mdl_far_35, ↓e_Mdl_far_38, ↓e_Mdl_far_41, ↓e_Mdl_far_44, ↓e_Mdl_far_45, ↓e_Mdl_far_48, ↓e_Mdl_far_49, ↓e_Mdl_far_52, ↓e_Mdl_far_55, ↓e_Mdl_far_58, ↓e_Mdl_far_59, ↓e_Mdl_far_61, ↓e_Mdl_far_62, ↓e_Mdl_far_63, ↓e_Mdl_far_64, ↓e_Mdl_far_66, ↓e_Mdl_far_68, ↓e_Mdl_far_69, ↓e_Mdl_far_70, not_true_eq_false, not_false_eq_true, one0, true_or, or_true, eq_self, bI_z, bI_nz, bI_o, b_ft, bI_1, bI_0, ↓kC_l, ↓kC_r, Option.toList_some, Option.toList_none, List.cons_append, List.nil_append, s1_0, s1_1i, s1_1r, s1_1w, s1_1n, s1_s, s2_0, s2_1i, s2_1r, s2_1w, s2_1n, s2_s, gI_sI, gI_sR, gI_sL, gI_sD, gR_sI, gR_sR, gR_sL, gR_sD, gL_sI, gL_sR, gL_sL, gL_sD, gD_sI, gD_sR, gD_sL, gD_sD, isK_sI, isK_sR, isK_sL, isK_sD, inL_sI, inL_sR, inL_sL, inL_sD, nx_sI, nx_sR, nx_sL, nx_sD, kd_sI, kd_sR, kd_sL, kd_sD, ln_sI, ln_sR, ln_sL, ln_sD, ↓reduceIte, c8_n, c8_1, c8_2, c8_3, c8_4, Nat.reduceAdd, m1, m2, L.k, q_lget _ L hi, q_lget _ L hj, i1, i2, i3, j1, j2, j3]
  rfl
def mhear (h : Hp) (p : Nat → Nat) (i j : Nat) : Bool := decide (i ≠ j) && decide (mfar h (p i) (p j) ≤ gI h (p j) 2 * gI h (p j) 2)
theorem q_mhearsIt (M : Md h m l a n p) {i j : Nat} (hi : i < n) (hj : j < n) : WP Gm j_Mdl_hearsIt 0 [some (.inr (.inl (some m))), some (.inl (ii i)), some (.inl (ii j))] [] h Q = Q (.inl (some (.inl (bI (mhear h p i j))))) h := by
  obtain ⟨m1, m2, L, m3, m4⟩ := id M
  obtain ⟨j1, j2, j3⟩ := m4 j hj
  have e1 : (ii i = ii j) = (i = j) := ii_inj (by omega) (by omega)
  simp only [↓e_Mdl_hearsIt_0, ↓e_Mdl_hearsIt_1, ↓e_Mdl_hearsIt_2, ↓e_Mdl_hearsIt_5, ↓e_Mdl_hearsIt_6, ↓e_Mdl_hearsIt_7, ↓e_Mdl_hearsIt_8, ↓e_Mdl_hearsIt_11, ↓e_Mdl_hearsIt_12, ↓e_Mdl_hearsIt_15, ↓e_Mdl_hearsIt_16, ↓e_Mdl_hearsIt_19, ↓e_Mdl_hearsIt_22, ↓e_Mdl_hearsIt_25, ↓e_Mdl_hearsIt_26, ↓e_Mdl_hearsIt_29, ↓e_Mdl_hearsIt_30, ↓e_Mdl_hearsIt_33, ↓e_Mdl_hearsIt_36, ↓e_Mdl_hearsIt_39, ↓e_Mdl_hearsIt_40, ↓e_Mdl_hearsIt_43, ↓e_Mdl_hearsIt_44, ↓e_Mdl_hearsIt_47, ↓e_Mdl_hearsIt_48, not_true_eq_false, not_false_eq_true, one0, true_or, or_true, eq_self, bI_z, bI_nz, bI_o, b_ft, bI_1, bI_0, ↓kC_l, ↓kC_r, Option.toList_some, Option.toList_none, List.cons_append, List.nil_append, s1_0, s1_1i, s1_1r, s1_1w, s1_1n, s1_s, s2_0, s2_1i, s2_1r, s2_1w, s2_1n, s2_s, gI_sI, gI_sR, gI_sL, gI_sD, gR_sI, gR_sR, gR_sL, gR_sD, gL_sI, gL_sR, gL_sL, gL_sD, gD_sI, gD_sR, gD_sL, gD_sD, isK_sI, isK_sR, isK_sL, isK_sD, inL_sI, inL_sR, inL_sL, inL_sD, nx_sI, nx_sR, nx_sL, nx_sD, kd_sI, kd_sR, kd_sL, kd_sD, ln_sI, ln_sR, ln_sL, ln_sD, ↓reduceIte, c8_n, c8_1, c8_2, c8_3, c8_4, Nat.reduceAdd, m1, m2, L.k, e1, q_mfar _ M hi hj, q_lget _ L hj, j1, j2, j3]
  unfold mhear
  by_cases h0 : i = j
  · simp [h0, bI]
  · by_cases h1 : gI h (p j) 2 * gI h (p j) 2 < mfar h (p i) (p j)
    · have h2 : ¬ mfar h (p i) (p j) ≤ gI h (p j) 2 * gI h (p j) 2 := Int32.not_le.mpr h1
      simp [h0, h1, h2, bI]
    · have h2 : mfar h (p i) (p j) ≤ gI h (p j) 2 * gI h (p j) 2 := Int32.not_lt.mp h1
      simp [h0, h1, h2, bI]
theorem q_mareLinked (M : Md h m l a n p) {i j : Nat} (hi : i < n) (hj : j < n) : WP Gm j_Mdl_areLinked 0 [some (.inr (.inl (some m))), some (.inl (ii i)), some (.inl (ii j))] [] h Q = Q (.inl (some (.inl (bI (mhear h p i j && mhear h p j i))))) h := by
  have m1 := M.1
  simp only [↓e_Mdl_areLinked_0, ↓e_Mdl_areLinked_1, ↓e_Mdl_areLinked_2, ↓e_Mdl_areLinked_3, ↓e_Mdl_areLinked_6, ↓e_Mdl_areLinked_9, ↓e_Mdl_areLinked_10, ↓e_Mdl_areLinked_11, ↓e_Mdl_areLinked_12, ↓e_Mdl_areLinked_15, ↓e_Mdl_areLinked_18, ↓e_Mdl_areLinked_19, ↓e_Mdl_areLinked_22, ↓e_Mdl_areLinked_23, not_true_eq_false, not_false_eq_true, one0, true_or, or_true, eq_self, bI_z, bI_nz, bI_o, b_ft, bI_1, bI_0, ↓kC_l, ↓kC_r, Option.toList_some, Option.toList_none, List.cons_append, List.nil_append, s1_0, s1_1i, s1_1r, s1_1w, s1_1n, s1_s, s2_0, s2_1i, s2_1r, s2_1w, s2_1n, s2_s, gI_sI, gI_sR, gI_sL, gI_sD, gR_sI, gR_sR, gR_sL, gR_sD, gL_sI, gL_sR, gL_sL, gL_sD, gD_sI, gD_sR, gD_sL, gD_sD, isK_sI, isK_sR, isK_sL, isK_sD, inL_sI, inL_sR, inL_sL, inL_sD, nx_sI, nx_sR, nx_sL, nx_sD, kd_sI, kd_sR, kd_sL, kd_sD, ln_sI, ln_sR, ln_sL, ln_sD, ↓reduceIte, c8_n, c8_1, c8_2, c8_3, c8_4, Nat.reduceAdd, m1, q_mhearsIt _ M hi hj, q_mhearsIt _ M hj hi]
  cases mhear h p i j <;> cases mhear h p j i <;> simp [bI]
end GEO
