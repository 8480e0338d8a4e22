/-! pland: what stays in the heap; land's questions -/
/-- the references that stay, and how many nodes there are -/
def Str (n : Nat) (h : Hp) : Prop := KS h ∧ (n ≤ 8 ∧ gI h 2 2 = ii n) ∧ (gR h 1 0 = some 2 ∧ gR h 1 1 = some 77 ∧ gR h 1 2 = some 114 ∧ gR h 1 3 = some 115) ∧ (gR h 2 0 = some 3 ∧ gR h 2 1 = some 4) ∧
  (∀ i, i < 8 → gR h 3 i = some (5 + 9 * i) ∧ gR h (5 + 9 * i) 4 = some (6 + 9 * i) ∧ gR h (5 + 9 * i) 15 = some (12 + 9 * i) ∧ gR h (6 + 9 * i) 0 = some (7 + 9 * i) ∧ gR h (12 + 9 * i) 0 = some (13 + 9 * i)) ∧
  (∀ i, i < 8 → ∀ k, k < 4 → ∃ f, f < 4 ∧ gR h (7 + 9 * i) k = some (8 + 9 * i + f)) ∧ (gR h 77 0 = some 2 ∧ gR h 114 0 = some 2 ∧ gR h 114 1 = some 77) ∧
  (gR h 115 0 = some 116 ∧ gR h 115 1 = some 117 ∧ gR h 115 2 = some 118 ∧ gR h 115 3 = some 119 ∧ gR h 115 4 = some 120) ∧
  (∀ i, i < 8 → gR h 78 i = some (79 + i) ∧ gR h 87 i = some (88 + i) ∧ gR h 96 i = some (97 + i) ∧ gR h 105 i = some (106 + i)) ∧
  ((gR h 77 1 = some 78 ∧ gR h 77 2 = some 87 ∧ gR h 77 3 = some 96 ∧ gR h 77 4 = some 105) ∨ (gR h 77 1 = some 96 ∧ gR h 77 2 = some 105 ∧ gR h 77 3 = some 78 ∧ gR h 77 4 = some 87))
section STR
variable {n : Nat} {h : Hp}
theorem k_s (S : Str n h) : isK h 1 kc_S = true := S.1.k (by decide) (by decide) rfl
theorem k_land (S : Str n h) : isK h 2 kc_Land = true := S.1.k (by decide) (by decide) rfl
theorem k_nodes (S : Str n h) : isK h 3 102 = true := S.1.k (by decide) (by decide) rfl
theorem k_hear (S : Str n h) : isK h 4 100 = true := S.1.k (by decide) (by decide) rfl
theorem k_routes (S : Str n h) : isK h 77 kc_Routes = true := S.1.k (by decide) (by decide) rfl
theorem k_traffic (S : Str n h) : isK h 114 kc_Traffic = true := S.1.k (by decide) (by decide) rfl
theorem k_market (S : Str n h) : isK h 115 kc_Market = true := S.1.k (by decide) (by decide) rfl
theorem k_node (S : Str n h) {i : Nat} (hi : i < 8) : isK h (5 + 9 * i) kc_Node = true := S.1.k (by omega) (by omega) (by revert hi; revert i; decide)
theorem k_queue (S : Str n h) {i : Nat} (hi : i < 8) : isK h (6 + 9 * i) kc_FrameQueue = true := S.1.k (by omega) (by omega) (by revert hi; revert i; decide)
theorem k_frames (S : Str n h) {i : Nat} (hi : i < 8) : isK h (7 + 9 * i) 103 = true := S.1.k (by omega) (by omega) (by revert hi; revert i; decide)
theorem k_frame (S : Str n h) {i f : Nat} (hi : i < 8) (hf : f < 4) : isK h (8 + 9 * i + f) kc_Frame = true := S.1.k (by omega) (by omega) (by revert hf; revert f; revert hi; revert i; decide)
theorem k_set (S : Str n h) {i : Nat} (hi : i < 8) : isK h (12 + 9 * i) kc_NumberSet = true := S.1.k (by omega) (by omega) (by revert hi; revert i; decide)
theorem k_bits (S : Str n h) {i : Nat} (hi : i < 8) : isK h (13 + 9 * i) 101 = true := S.1.k (by omega) (by omega) (by revert hi; revert i; decide)
theorem l_nodes (S : Str n h) {i : Nat} (hi : i < 8) : inL h 3 (ii i) = true := inL_n (by omega) (by rw [S.1.l (n := 8) (by decide) (by decide) (by decide) rfl]; exact hi)
theorem l_hear (S : Str n h) {i : Nat} (hi : i < 8) : inL h 4 (ii i) = true := inL_n (by omega) (by rw [S.1.l (n := 8) (by decide) (by decide) (by decide) rfl]; exact hi)
theorem l_frames (S : Str n h) {i k : Nat} (hi : i < 8) (hk : k < 4) : inL h (7 + 9 * i) (ii k) = true := inL_n (by omega) (by rw [S.1.l (n := 4) (by omega) (by omega) (by revert hi; revert i; decide) (by revert hi; revert i; decide)]; exact hk)
theorem l_bits (S : Str n h) {i k : Nat} (hi : i < 8) (hk : k < 8) : inL h (13 + 9 * i) (ii k) = true := inL_n (by omega) (by rw [S.1.l (n := 8) (by omega) (by omega) (by revert hi; revert i; decide) (by revert hi; revert i; decide)]; exact hk)
theorem n8 (S : Str n h) : n ≤ 8 := S.2.1.1
theorem g_cnt (S : Str n h) : gI h 2 2 = ii n := S.2.1.2
theorem r_land (S : Str n h) : gR h 1 0 = some 2 := S.2.2.1.1
theorem r_routes (S : Str n h) : gR h 1 1 = some 77 := S.2.2.1.2.1
theorem r_traffic (S : Str n h) : gR h 1 2 = some 114 := S.2.2.1.2.2.1
theorem r_market (S : Str n h) : gR h 1 3 = some 115 := S.2.2.1.2.2.2
theorem r_nodes (S : Str n h) : gR h 2 0 = some 3 := S.2.2.2.1.1
theorem r_hear (S : Str n h) : gR h 2 1 = some 4 := S.2.2.2.1.2
theorem r_node (S : Str n h) {i : Nat} (hi : i < 8) : gR h 3 i = some (5 + 9 * i) := (S.2.2.2.2.1 i hi).1
theorem r_queue (S : Str n h) {i : Nat} (hi : i < 8) : gR h (5 + 9 * i) 4 = some (6 + 9 * i) := (S.2.2.2.2.1 i hi).2.1
theorem r_set (S : Str n h) {i : Nat} (hi : i < 8) : gR h (5 + 9 * i) 15 = some (12 + 9 * i) := (S.2.2.2.2.1 i hi).2.2.1
theorem r_frames (S : Str n h) {i : Nat} (hi : i < 8) : gR h (6 + 9 * i) 0 = some (7 + 9 * i) := (S.2.2.2.2.1 i hi).2.2.2.1
theorem r_bits (S : Str n h) {i : Nat} (hi : i < 8) : gR h (12 + 9 * i) 0 = some (13 + 9 * i) := (S.2.2.2.2.1 i hi).2.2.2.2
theorem r_frame (S : Str n h) {i k : Nat} (hi : i < 8) (hk : k < 4) : ∃ f, f < 4 ∧ gR h (7 + 9 * i) k = some (8 + 9 * i + f) := S.2.2.2.2.2.1 i hi k hk
theorem r_rland (S : Str n h) : gR h 77 0 = some 2 := S.2.2.2.2.2.2.1.1
theorem r_tland (S : Str n h) : gR h 114 0 = some 2 := S.2.2.2.2.2.2.1.2.1
theorem r_troutes (S : Str n h) : gR h 114 1 = some 77 := S.2.2.2.2.2.2.1.2.2
end STR
/-- a bit of a set of nodes, as isIn reads it -/
def tb (s : Int32) (i : Nat) : Bool := decide (¬ (s >>> (ii i &&& 31)) &&& 1 = 0)
section Q1
variable {n : Nat} {h : Hp} (Q : MRes → Hp → Prop)
theorem q_isIn (s : Int32) (i : Nat) : WP Gm j_S_isIn 0 [some (.inl s), some (.inl (ii i))] [] h Q = Q (.inl (some (.inl (bI (tb s i))))) h := by
  simp only [↓e_S_isIn_0, ↓e_S_isIn_1, ↓e_S_isIn_2, ↓e_S_isIn_3, ↓e_S_isIn_4, ↓e_S_isIn_5, ↓e_S_isIn_8, ↓e_S_isIn_9, ↓e_S_isIn_12, ↓e_S_isIn_13, not_true_eq_false, not_false_eq_true, one0, true_or, or_true, eq_self, bI_z, bI_nz, bI_o, b_ft, bI_1, bI_0, ↓kC_l, ↓kC_r, Option.toList_some, Option.toList_none, List.cons_append, List.nil_append, s1_0, s1_1i, s1_1r, s1_1w, s1_1n, s1_s, s2_0, s2_1i, s2_1r, s2_1w, s2_1n, s2_s, gI_sI, gI_sR, gI_sL, gI_sD, gR_sI, gR_sR, gR_sL, gR_sD, gL_sI, gL_sR, gL_sL, gL_sD, gD_sI, gD_sR, gD_sL, gD_sD, isK_sI, isK_sR, isK_sL, isK_sD, inL_sI, inL_sR, inL_sL, inL_sD, nx_sI, nx_sR, nx_sL, nx_sD, kd_sI, kd_sR, kd_sL, kd_sD, ln_sI, ln_sR, ln_sL, ln_sD, ↓reduceIte, c8_n, c8_1, c8_2, c8_3, c8_4, Nat.reduceAdd]
  unfold tb
  by_cases hc : (s >>> (ii i &&& 31)) &&& 1 = 0
  · simp [hc, bI]
  · simp [hc, bI]
theorem q_isNode (S : Str n h) (x : Int32) : WP Gm j_Land_isNode 0 [some (.inr (.inl (some 2))), some (.inl x)] [] h Q = Q (.inl (some (.inl (bI (decide (0 ≤ x ∧ x < ii n)))))) h := by
  simp only [↓e_Land_isNode_0, ↓e_Land_isNode_1, ↓e_Land_isNode_4, ↓e_Land_isNode_5, ↓e_Land_isNode_6, ↓e_Land_isNode_9, ↓e_Land_isNode_12, ↓e_Land_isNode_13, ↓e_Land_isNode_16, ↓e_Land_isNode_17, not_true_eq_false, not_false_eq_true, one0, true_or, or_true, eq_self, bI_z, bI_nz, bI_o, b_ft, bI_1, bI_0, ↓kC_l, ↓kC_r, Option.toList_some, Option.toList_none, List.cons_append, List.nil_append, s1_0, s1_1i, s1_1r, s1_1w, s1_1n, s1_s, s2_0, s2_1i, s2_1r, s2_1w, s2_1n, s2_s, gI_sI, gI_sR, gI_sL, gI_sD, gR_sI, gR_sR, gR_sL, gR_sD, gL_sI, gL_sR, gL_sL, gL_sD, gD_sI, gD_sR, gD_sL, gD_sD, isK_sI, isK_sR, isK_sL, isK_sD, inL_sI, inL_sR, inL_sL, inL_sD, nx_sI, nx_sR, nx_sL, nx_sD, kd_sI, kd_sR, kd_sL, kd_sD, ln_sI, ln_sR, ln_sL, ln_sD, ↓reduceIte, c8_n, c8_1, c8_2, c8_3, c8_4, Nat.reduceAdd, k_land S, g_cnt S]
  by_cases h1 : x < 0
  · rw [if_pos h1, show decide (0 ≤ x ∧ x < ii n) = false from decide_eq_false (fun q => Int32.not_le.mpr h1 q.1), bI_0]
  · rw [if_neg h1]
    by_cases h2 : ii n ≤ x
    · rw [if_pos h2, show decide (0 ≤ x ∧ x < ii n) = false from decide_eq_false (fun q => Int32.not_le.mpr q.2 h2), bI_0]
    · rw [if_neg h2, show decide (0 ≤ x ∧ x < ii n) = true from decide_eq_true ⟨Int32.not_lt.mp h1, Int32.not_le.mp h2⟩, bI_1]
theorem isNode_ii (S : Str n h) {i : Nat} (hi : i < 8) : decide (0 ≤ ii i ∧ ii i < ii n) = decide (i < n) := by
  have := n8 S
  have e1 : (ii i < ii n) = (i < n) := ii_lt (by omega) (by omega)
  have e2 : ((0 : Int32) ≤ ii i) = (0 ≤ i) := ii_le (i := 0) (by omega) (by omega)
  simp [e1, e2]
def farF (h : Hp) (i j : Nat) : Int32 := (gI h (5 + 9 * i) 0 - gI h (5 + 9 * j) 0) * (gI h (5 + 9 * i) 0 - gI h (5 + 9 * j) 0) + (gI h (5 + 9 * i) 1 - gI h (5 + 9 * j) 1) * (gI h (5 + 9 * i) 1 - gI h (5 + 9 * j) 1)
theorem lt31 {i : Nat} (hi : i < 8) : i < 2147483648 := by omega
theorem q_far (S : Str n h) {i j : Nat} (hi : i < 8) (hj : j < 8) : WP Gm j_Land_far 0 [some (.inr (.inl (some 2))), some (.inl (ii i)), some (.inl (ii j)), none, none] [] h Q = Q (.inl (some (.inl (farF h i j)))) h := by
  simp only [↓e_Land_far_0, ↓e_Land_far_1, ↓e_Land_far_4, ↓e_Land_far_5, ↓e_Land_far_6, ↓e_Land_far_9, ↓e_Land_far_10, ↓e_Land_far_13, ↓e_Land_far_14, ↓e_Land_far_15, ↓e_Land_far_18, ↓e_Land_far_19, ↓e_Land_far_20, ↓e_Land_far_21, ↓e_Land_far_24, ↓e_Land_far_25, ↓e_Land_far_26, ↓e_Land_far_29, ↓e_Land_far_30, ↓e_Land_far_33, ↓e_Land_far_34, ↓e_Land_far_35, ↓e_Land_far_38, ↓e_Land_far_39, ↓e_Land_far_41, ↓e_Land_far_42, ↓e_Land_far_43, ↓e_Land_far_44, ↓e_Land_far_46, ↓e_Land_far_48, ↓e_Land_far_49, ↓e_Land_far_50, not_true_eq_false, not_false_eq_true, one0, true_or, or_true, eq_self, bI_z, bI_nz, bI_o, b_ft, bI_1, bI_0, ↓kC_l, ↓kC_r, Option.toList_some, Option.toList_none, List.cons_append, List.nil_append, s1_0, s1_1i, s1_1r, s1_1w, s1_1n, s1_s, s2_0, s2_1i, s2_1r, s2_1w, s2_1n, s2_s, gI_sI, gI_sR, gI_sL, gI_sD, gR_sI, gR_sR, gR_sL, gR_sD, gL_sI, gL_sR, gL_sL, gL_sD, gD_sI, gD_sR, gD_sL, gD_sD, isK_sI, isK_sR, isK_sL, isK_sD, inL_sI, inL_sR, inL_sL, inL_sD, nx_sI, nx_sR, nx_sL, nx_sD, kd_sI, kd_sR, kd_sL, kd_sD, ln_sI, ln_sR, ln_sL, ln_sD, ↓reduceIte, c8_n, c8_1, c8_2, c8_3, c8_4, Nat.reduceAdd, k_land S, r_nodes S, k_nodes S, l_nodes S hi, l_nodes S hj, ii_nat (lt31 hi), ii_nat (lt31 hj), r_node S hi, r_node S hj, k_node S hi, k_node S hj]
  rfl
def chF (n : Nat) (h : Hp) (i j : Nat) : Bool := decide (i < n) && (decide (j < n) && tb (gI h 4 j) i)
theorem q_canHear (S : Str n h) {i j : Nat} (hi : i < 8) (hj : j < 8) : WP Gm j_Land_canHear 0 [some (.inr (.inl (some 2))), some (.inl (ii i)), some (.inl (ii j))] [] h Q = Q (.inl (some (.inl (bI (chF n h i j))))) h := by
  simp only [↓e_Land_canHear_0, ↓e_Land_canHear_1, ↓e_Land_canHear_2, ↓e_Land_canHear_5, ↓e_Land_canHear_8, ↓e_Land_canHear_9, ↓e_Land_canHear_10, ↓e_Land_canHear_13, ↓e_Land_canHear_16, ↓e_Land_canHear_17, ↓e_Land_canHear_20, ↓e_Land_canHear_21, ↓e_Land_canHear_22, ↓e_Land_canHear_23, ↓e_Land_canHear_26, ↓e_Land_canHear_29, ↓e_Land_canHear_30, ↓e_Land_canHear_33, ↓e_Land_canHear_34, not_true_eq_false, not_false_eq_true, one0, true_or, or_true, eq_self, bI_z, bI_nz, bI_o, b_ft, bI_1, bI_0, ↓kC_l, ↓kC_r, Option.toList_some, Option.toList_none, List.cons_append, List.nil_append, s1_0, s1_1i, s1_1r, s1_1w, s1_1n, s1_s, s2_0, s2_1i, s2_1r, s2_1w, s2_1n, s2_s, gI_sI, gI_sR, gI_sL, gI_sD, gR_sI, gR_sR, gR_sL, gR_sD, gL_sI, gL_sR, gL_sL, gL_sD, gD_sI, gD_sR, gD_sL, gD_sD, isK_sI, isK_sR, isK_sL, isK_sD, inL_sI, inL_sR, inL_sL, inL_sD, nx_sI, nx_sR, nx_sL, nx_sD, kd_sI, kd_sR, kd_sL, kd_sD, ln_sI, ln_sR, ln_sL, ln_sD, ↓reduceIte, c8_n, c8_1, c8_2, c8_3, c8_4, Nat.reduceAdd, k_land S, r_hear S, k_hear S, l_hear S hj, ii_nat (lt31 hj), q_isNode _ S, q_isIn, isNode_ii S hi, isNode_ii S hj]
  unfold chF
  cases decide (i < n) <;> cases decide (j < n) <;> cases tb (gI h 4 j) i <;> rfl
theorem q_areLinked (S : Str n h) {i j : Nat} (hi : i < 8) (hj : j < 8) : WP Gm j_Land_areLinked 0 [some (.inr (.inl (some 2))), some (.inl (ii i)), some (.inl (ii j))] [] h Q = Q (.inl (some (.inl (bI (chF n h i j && chF n h j i))))) h := by
  simp only [↓e_Land_areLinked_0, ↓e_Land_areLinked_1, ↓e_Land_areLinked_2, ↓e_Land_areLinked_3, ↓e_Land_areLinked_6, ↓e_Land_areLinked_9, ↓e_Land_areLinked_10, ↓e_Land_areLinked_11, ↓e_Land_areLinked_12, ↓e_Land_areLinked_15, ↓e_Land_areLinked_18, ↓e_Land_areLinked_19, ↓e_Land_areLinked_22, ↓e_Land_areLinked_23, not_true_eq_false, not_false_eq_true, one0, true_or, or_true, eq_self, bI_z, bI_nz, bI_o, b_ft, bI_1, bI_0, ↓kC_l, ↓kC_r, Option.toList_some, Option.toList_none, List.cons_append, List.nil_append, s1_0, s1_1i, s1_1r, s1_1w, s1_1n, s1_s, s2_0, s2_1i, s2_1r, s2_1w, s2_1n, s2_s, gI_sI, gI_sR, gI_sL, gI_sD, gR_sI, gR_sR, gR_sL, gR_sD, gL_sI, gL_sR, gL_sL, gL_sD, gD_sI, gD_sR, gD_sL, gD_sD, isK_sI, isK_sR, isK_sL, isK_sD, inL_sI, inL_sR, inL_sL, inL_sD, nx_sI, nx_sR, nx_sL, nx_sD, kd_sI, kd_sR, kd_sL, kd_sD, ln_sI, ln_sR, ln_sL, ln_sD, ↓reduceIte, c8_n, c8_1, c8_2, c8_3, c8_4, Nat.reduceAdd, k_land S, q_canHear _ S hi hj, q_canHear _ S hj hi]
  cases chF n h i j <;> cases chF n h j i <;> rfl
end Q1
