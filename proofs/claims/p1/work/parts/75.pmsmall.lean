/-! pmsmall: the reference's small methods -/
section SML
variable {h : Hp} {m n a : Nat} (Q : MRes → Hp → Prop)
theorem q_mstart (hk : isK h m kc_Mdl = true) (b : Bool) (w : Int32) : WP Gm j_Mdl_start 0 [some (.inr (.inl (some m))), some (.inl (bI b)), some (.inl w)] [] h Q = if b = true then Q (.inl (some (.inl (bI (decide (0 < w)))))) (sI (sI h m 0 0) m 0 w) else Q (.inl (some (.inl 0))) (sI h m 0 0) := by
  have hk2 : isK (sI h m 0 0) m kc_Mdl = true := hk
  have e0 : gI (sI h m 0 0) m 0 = 0 := by rw [gI_sI, if_pos ⟨rfl, rfl⟩]
  have e1 : bI (decide ((0 : Int32) < 0)) = 0 := by decide
  simp only [↓e_Mdl_start_0, ↓e_Mdl_start_1, ↓e_Mdl_start_2, ↓e_Mdl_start_5, ↓e_Mdl_start_6, ↓e_Mdl_start_7, ↓e_Mdl_start_8, ↓e_Mdl_start_11, not_true_eq_false, not_false_eq_true, one0, true_or, or_true, eq_self, bI_z, bI_nz, bI_o, b_ft, bI_1, bI_0, ↓kC_l, ↓kC_r, Option.toList_some, Option.toList_none, List.cons_append, List.nil_append, s1_0, s1_1i, s1_1r, s1_1w, s1_1n, s1_s, s2_0, s2_1i, s2_1r, s2_1w, s2_1n, s2_s, gI_sI, gI_sR, gI_sL, gI_sD, gR_sI, gR_sR, gR_sL, gR_sD, gL_sI, gL_sR, gL_sL, gL_sD, gD_sI, gD_sR, gD_sL, gD_sD, isK_sI, isK_sR, isK_sL, isK_sD, inL_sI, inL_sR, inL_sL, inL_sD, nx_sI, nx_sR, nx_sL, nx_sD, kd_sI, kd_sR, kd_sL, kd_sD, ln_sI, ln_sR, ln_sL, ln_sD, ↓reduceIte, c8_n, c8_1, c8_2, c8_3, c8_4, Nat.reduceAdd, hk, q_mrefuse _ hk2, e0, e1, and_true]
theorem q_misIn (v lo hi : Int32) : WP Gm j_Mdl_isIn 0 [some (.inl v), some (.inl lo), some (.inl hi)] [] h Q = Q (.inl (some (.inl (bI (decide (lo ≤ v) && decide (v ≤ hi)))))) h := by
  simp only [↓e_Mdl_isIn_0, ↓e_Mdl_isIn_1, ↓e_Mdl_isIn_2, ↓e_Mdl_isIn_5, ↓e_Mdl_isIn_6, ↓e_Mdl_isIn_7, ↓e_Mdl_isIn_10, ↓e_Mdl_isIn_11, ↓e_Mdl_isIn_14, ↓e_Mdl_isIn_15, not_true_eq_false, not_false_eq_true, one0, true_or, or_true, eq_self, bI_z, bI_nz, bI_o, b_ft, bI_1, bI_0, ↓kC_l, ↓kC_r, Option.toList_some, Option.toList_none, List.cons_append, List.nil_append, s1_0, s1_1i, s1_1r, s1_1w, s1_1n, s1_s, s2_0, s2_1i, s2_1r, s2_1w, s2_1n, s2_s, gI_sI, gI_sR, gI_sL, gI_sD, gR_sI, gR_sR, gR_sL, gR_sD, gL_sI, gL_sR, gL_sL, gL_sD, gD_sI, gD_sR, gD_sL, gD_sD, isK_sI, isK_sR, isK_sL, isK_sD, inL_sI, inL_sR, inL_sL, inL_sD, nx_sI, nx_sR, nx_sL, nx_sD, kd_sI, kd_sR, kd_sL, kd_sD, ln_sI, ln_sR, ln_sL, ln_sD, ↓reduceIte, c8_n, c8_1, c8_2, c8_3, c8_4, Nat.reduceAdd]
  by_cases h1 : v < lo
  · have h2 : ¬ lo ≤ v := Int32.not_le.mpr h1
    simp [h1, h2, bI]
  · have h2 : lo ≤ v := Int32.not_lt.mp h1
    by_cases h3 : hi < v
    · have h4 : ¬ v ≤ hi := Int32.not_le.mpr h3
      simp [h1, h2, h3, h4, bI]
    · have h4 : v ≤ hi := Int32.not_lt.mp h3
      simp [h1, h2, h3, h4, bI]
theorem q_mone (b : Bool) : WP Gm j_Mdl_one 0 [some (.inl (bI b))] [] h Q = Q (.inl (some (.inl (bI b)))) h := by
  simp only [↓e_Mdl_one_0, ↓e_Mdl_one_1, ↓e_Mdl_one_4, ↓e_Mdl_one_5, ↓e_Mdl_one_8, ↓e_Mdl_one_9, not_true_eq_false, not_false_eq_true, one0, true_or, or_true, eq_self, bI_z, bI_nz, bI_o, b_ft, bI_1, bI_0, ↓kC_l, ↓kC_r, Option.toList_some, Option.toList_none, List.cons_append, List.nil_append, s1_0, s1_1i, s1_1r, s1_1w, s1_1n, s1_s, s2_0, s2_1i, s2_1r, s2_1w, s2_1n, s2_s, gI_sI, gI_sR, gI_sL, gI_sD, gR_sI, gR_sR, gR_sL, gR_sD, gL_sI, gL_sR, gL_sL, gL_sD, gD_sI, gD_sR, gD_sL, gD_sD, isK_sI, isK_sR, isK_sL, isK_sD, inL_sI, inL_sR, inL_sL, inL_sD, nx_sI, nx_sR, nx_sL, nx_sD, kd_sI, kd_sR, kd_sL, kd_sD, ln_sI, ln_sR, ln_sL, ln_sD, ↓reduceIte, c8_n, c8_1, c8_2, c8_3, c8_4, Nat.reduceAdd]
  cases b <;> simp [bI]
theorem q_mhas (s : Int32) (i : Nat) : WP Gm j_Mdl_has 0 [some (.inl s), some (.inl (ii i))] [] h Q = Q (.inl (some (.inl (bI (decide ((s >>> (ii i &&& 31)) &&& 1 = 1)))))) h := by
  simp only [↓e_Mdl_has_0, ↓e_Mdl_has_1, ↓e_Mdl_has_2, ↓e_Mdl_has_3, ↓e_Mdl_has_4, ↓e_Mdl_has_5, ↓e_Mdl_has_6, ↓e_Mdl_has_9, ↓e_Mdl_has_10, ↓e_Mdl_has_13, ↓e_Mdl_has_14, not_true_eq_false, not_false_eq_true, one0, true_or, or_true, eq_self, bI_z, bI_nz, bI_o, b_ft, bI_1, bI_0, ↓kC_l, ↓kC_r, Option.toList_some, Option.toList_none, List.cons_append, List.nil_append, s1_0, s1_1i, s1_1r, s1_1w, s1_1n, s1_s, s2_0, s2_1i, s2_1r, s2_1w, s2_1n, s2_s, gI_sI, gI_sR, gI_sL, gI_sD, gR_sI, gR_sR, gR_sL, gR_sD, gL_sI, gL_sR, gL_sL, gL_sD, gD_sI, gD_sR, gD_sL, gD_sD, isK_sI, isK_sR, isK_sL, isK_sD, inL_sI, inL_sR, inL_sL, inL_sD, nx_sI, nx_sR, nx_sL, nx_sD, kd_sI, kd_sR, kd_sL, kd_sD, ln_sI, ln_sR, ln_sL, ln_sD, ↓reduceIte, c8_n, c8_1, c8_2, c8_3, c8_4, Nat.reduceAdd]
  by_cases hc : (s >>> (ii i &&& 31)) &&& 1 = 1
  · simp [hc, bI]
  · simp [hc, bI]
theorem q_msends {q : Nat} (hk : isK h q kc_MNode = true) : WP Gm j_MNode_sends 0 [some (.inr (.inl (some q)))] [] h Q = Q (.inl (some (.inl (bI (decide (0 < gI h q 7)))))) h := by
  simp only [↓e_MNode_sends_0, ↓e_MNode_sends_1, ↓e_MNode_sends_4, ↓e_MNode_sends_7, ↓e_MNode_sends_8, ↓e_MNode_sends_11, ↓e_MNode_sends_12, not_true_eq_false, not_false_eq_true, one0, true_or, or_true, eq_self, bI_z, bI_nz, bI_o, b_ft, bI_1, bI_0, ↓kC_l, ↓kC_r, Option.toList_some, Option.toList_none, List.cons_append, List.nil_append, s1_0, s1_1i, s1_1r, s1_1w, s1_1n, s1_s, s2_0, s2_1i, s2_1r, s2_1w, s2_1n, s2_s, gI_sI, gI_sR, gI_sL, gI_sD, gR_sI, gR_sR, gR_sL, gR_sD, gL_sI, gL_sR, gL_sL, gL_sD, gD_sI, gD_sR, gD_sL, gD_sD, isK_sI, isK_sR, isK_sL, isK_sD, inL_sI, inL_sR, inL_sL, inL_sD, nx_sI, nx_sR, nx_sL, nx_sD, kd_sI, kd_sR, kd_sL, kd_sD, ln_sI, ln_sR, ln_sL, ln_sD, ↓reduceIte, c8_n, c8_1, c8_2, c8_3, c8_4, Nat.reduceAdd, hk]
  by_cases h1 : gI h q 7 ≤ 0
  · have h2 : ¬ 0 < gI h q 7 := Int32.not_lt.mpr h1
    simp [h1, h2, bI]
  · have h2 : 0 < gI h q 7 := Int32.not_le.mp h1
    simp [h1, h2, bI]
theorem q_misNobody (hk : isK h m kc_Mdl = true) {l : Nat} (hl : gR h m 9 = some l) (L : Li h l a n) (x : Int32) : WP Gm j_Mdl_isNobody 0 [some (.inr (.inl (some m))), some (.inl x)] [] h Q = Q (.inl (some (.inl (bI (!(decide (0 ≤ x) && decide (x ≤ ii n - 1))))))) h := by
  simp only [↓e_Mdl_isNobody_0, ↓e_Mdl_isNobody_1, ↓e_Mdl_isNobody_2, ↓e_Mdl_isNobody_3, ↓e_Mdl_isNobody_6, ↓e_Mdl_isNobody_9, ↓e_Mdl_isNobody_10, ↓e_Mdl_isNobody_11, ↓e_Mdl_isNobody_14, ↓e_Mdl_isNobody_17, ↓e_Mdl_isNobody_18, ↓e_Mdl_isNobody_21, ↓e_Mdl_isNobody_22, not_true_eq_false, not_false_eq_true, one0, true_or, or_true, eq_self, bI_z, bI_nz, bI_o, b_ft, bI_1, bI_0, ↓kC_l, ↓kC_r, Option.toList_some, Option.toList_none, List.cons_append, List.nil_append, s1_0, s1_1i, s1_1r, s1_1w, s1_1n, s1_s, s2_0, s2_1i, s2_1r, s2_1w, s2_1n, s2_s, gI_sI, gI_sR, gI_sL, gI_sD, gR_sI, gR_sR, gR_sL, gR_sD, gL_sI, gL_sR, gL_sL, gL_sD, gD_sI, gD_sR, gD_sL, gD_sD, isK_sI, isK_sR, isK_sL, isK_sD, inL_sI, inL_sR, inL_sL, inL_sD, nx_sI, nx_sR, nx_sL, nx_sD, kd_sI, kd_sR, kd_sL, kd_sD, ln_sI, ln_sR, ln_sL, ln_sD, ↓reduceIte, c8_n, c8_1, c8_2, c8_3, c8_4, Nat.reduceAdd, hk, hl, L.k, q_lsize _ L, q_misIn]
  cases (decide (0 ≤ x) && decide (x ≤ ii n - 1)) <;> simp [bI]
end SML
