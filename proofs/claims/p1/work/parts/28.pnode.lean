/-! pnode: queues and nodes -/
section NODE
variable {n : Nat} {h : Hp}
theorem q_isWithin (Q : MRes → Hp → Prop) (x a b : Int32) : WP Gm j_S_isWithin 0 [some (.inl x), some (.inl a), some (.inl b)] [] h Q = Q (.inl (some (.inl (bI (decide (a ≤ x) && decide (x ≤ b)))))) h := by
  simp only [↓e_S_isWithin_0, ↓e_S_isWithin_1, ↓e_S_isWithin_2, ↓e_S_isWithin_5, ↓e_S_isWithin_6, ↓e_S_isWithin_7, ↓e_S_isWithin_10, ↓e_S_isWithin_11, ↓e_S_isWithin_14, ↓e_S_isWithin_15, not_true_eq_false, not_false_eq_true, one0, true_or, or_true, eq_self, bI_z, bI_nz, bI_o, b_ft, bI_1, bI_0, ↓kC_l, ↓kC_r, Option.toList_some, Option.toList_none, List.cons_append, List.nil_append, s1_0, s1_1i, s1_1r, s1_1w, s1_1n, s1_s, s2_0, s2_1i, s2_1r, s2_1w, s2_1n, s2_s, gI_sI, gI_sR, gI_sL, gI_sD, gR_sI, gR_sR, gR_sL, gR_sD, gL_sI, gL_sR, gL_sL, gL_sD, gD_sI, gD_sR, gD_sL, gD_sD, isK_sI, isK_sR, isK_sL, isK_sD, inL_sI, inL_sR, inL_sL, inL_sD, nx_sI, nx_sR, nx_sL, nx_sD, kd_sI, kd_sR, kd_sL, kd_sD, ln_sI, ln_sR, ln_sL, ln_sD, ↓reduceIte, c8_n, c8_1, c8_2, c8_3, c8_4, Nat.reduceAdd]
  by_cases h1 : x < a
  · simp only [h1, ↓reduceIte, decide_eq_false (Int32.not_le.mpr h1), Bool.false_and, bI_0]
  · by_cases h2 : b < x
    · simp only [h1, h2, ↓reduceIte, decide_eq_false (Int32.not_le.mpr h2), Bool.and_false, bI_0]
    · simp only [h1, h2, ↓reduceIte, decide_eq_true (Int32.not_lt.mp h1), decide_eq_true (Int32.not_lt.mp h2), Bool.and_self, bI_1]
theorem q_at0 (Q : MRes → Hp → Prop) (S : Str n h) {i q : Nat} (hi : i < 8) (hq : gI h (6 + 9 * i) 1 = ii q) (hq4 : q ≤ 4) : WP Gm j_FrameQueue_at 0 [some (.inr (.inl (some (6 + 9 * i)))), some (.inl 0)] [] h Q = Q (.inl (some (.inr (.inl (if 0 < q then gR h (7 + 9 * i) 0 else none))))) h := by
  have e1 : (ii q ≤ (0 : Int32)) = (q ≤ 0) := ii_le (j := 0) (by omega) (by omega)
  have e2 : inL h (7 + 9 * i) 0 = true := l_frames (k := 0) S hi (by omega)
  simp only [↓e_FrameQueue_at_0, ↓e_FrameQueue_at_1, ↓e_FrameQueue_at_4, ↓e_FrameQueue_at_5, ↓e_FrameQueue_at_6, ↓e_FrameQueue_at_9, ↓e_FrameQueue_at_12, ↓e_FrameQueue_at_13, ↓e_FrameQueue_at_16, ↓e_FrameQueue_at_17, ↓e_FrameQueue_at_18, ↓e_FrameQueue_at_21, ↓e_FrameQueue_at_22, not_true_eq_false, not_false_eq_true, one0, true_or, or_true, eq_self, bI_z, bI_nz, bI_o, b_ft, bI_1, bI_0, ↓kC_l, ↓kC_r, Option.toList_some, Option.toList_none, List.cons_append, List.nil_append, s1_0, s1_1i, s1_1r, s1_1w, s1_1n, s1_s, s2_0, s2_1i, s2_1r, s2_1w, s2_1n, s2_s, gI_sI, gI_sR, gI_sL, gI_sD, gR_sI, gR_sR, gR_sL, gR_sD, gL_sI, gL_sR, gL_sL, gL_sD, gD_sI, gD_sR, gD_sL, gD_sD, isK_sI, isK_sR, isK_sL, isK_sD, inL_sI, inL_sR, inL_sL, inL_sD, nx_sI, nx_sR, nx_sL, nx_sD, kd_sI, kd_sR, kd_sL, kd_sD, ln_sI, ln_sR, ln_sL, ln_sD, ↓reduceIte, c8_n, c8_1, c8_2, c8_3, c8_4, Nat.reduceAdd, k_s S, k_land S, k_nodes S, k_hear S, k_routes S, k_traffic S, k_market S, g_cnt S, r_land S, r_routes S, r_traffic S, r_market S, r_nodes S, r_hear S, r_rland S, r_tland S, r_troutes S, l_nodes S hi, l_hear S hi, r_node S hi, r_queue S hi, r_set S hi, r_frames S hi, r_bits S hi, k_node S hi, k_queue S hi, k_frames S hi, k_set S hi, k_bits S hi, ii_nat (lt31 hi), hq, e1, e2, (show ¬ ((0 : Int32) < 0) by decide), (show Int32.toNatClampNeg 0 = 0 by decide)]
  by_cases h0 : q ≤ 0
  · rw [if_pos h0, if_neg (by omega)]
  · rw [if_neg h0, if_pos (by omega)]
theorem q_isSending (Q : MRes → Hp → Prop) (S : Str n h) {i : Nat} (hi : i < 8) : WP Gm j_Node_isSending 0 [some (.inr (.inl (some (5 + 9 * i))))] [] h Q = Q (.inl (some (.inl (bI (decide (0 < gI h (5 + 9 * i) 7)))))) h := by
  simp only [↓e_Node_isSending_0, ↓e_Node_isSending_1, ↓e_Node_isSending_4, ↓e_Node_isSending_7, ↓e_Node_isSending_8, ↓e_Node_isSending_11, ↓e_Node_isSending_12, not_true_eq_false, not_false_eq_true, one0, true_or, or_true, eq_self, bI_z, bI_nz, bI_o, b_ft, bI_1, bI_0, ↓kC_l, ↓kC_r, Option.toList_some, Option.toList_none, List.cons_append, List.nil_append, s1_0, s1_1i, s1_1r, s1_1w, s1_1n, s1_s, s2_0, s2_1i, s2_1r, s2_1w, s2_1n, s2_s, gI_sI, gI_sR, gI_sL, gI_sD, gR_sI, gR_sR, gR_sL, gR_sD, gL_sI, gL_sR, gL_sL, gL_sD, gD_sI, gD_sR, gD_sL, gD_sD, isK_sI, isK_sR, isK_sL, isK_sD, inL_sI, inL_sR, inL_sL, inL_sD, nx_sI, nx_sR, nx_sL, nx_sD, kd_sI, kd_sR, kd_sL, kd_sD, ln_sI, ln_sR, ln_sL, ln_sD, ↓reduceIte, c8_n, c8_1, c8_2, c8_3, c8_4, Nat.reduceAdd, l_nodes S hi, l_hear S hi, r_node S hi, r_queue S hi, r_set S hi, r_frames S hi, r_bits S hi, k_node S hi, k_queue S hi, k_frames S hi, k_set S hi, k_bits S hi, ii_nat (lt31 hi)]
  by_cases h1 : gI h (5 + 9 * i) 7 ≤ 0
  · rw [if_pos h1, decide_eq_false (Int32.not_lt.mpr h1)]; rfl
  · rw [if_neg h1, decide_eq_true (Int32.not_le.mp h1)]; rfl
theorem q_begin (Q : MRes → Hp → Prop) (S : Str n h) {i : Nat} (hi : i < 8) (x y : Int32) : WP Gm j_Node_begin 0 [some (.inr (.inl (some (5 + 9 * i)))), some (.inl x), some (.inl y)] [] h Q = Q (.inl none) (sI (sI (sI (sI h (5 + 9 * i) 11 (gI h (5 + 9 * i) 11 + 1)) (5 + 9 * i) 7 x) (5 + 9 * i) 8 y) (5 + 9 * i) 9 1) := by
  simp only [↓e_Node_begin_0, ↓e_Node_begin_1, ↓e_Node_begin_2, ↓e_Node_begin_5, ↓e_Node_begin_6, ↓e_Node_begin_7, ↓e_Node_begin_10, ↓e_Node_begin_11, ↓e_Node_begin_12, ↓e_Node_begin_15, ↓e_Node_begin_16, ↓e_Node_begin_17, ↓e_Node_begin_20, ↓e_Node_begin_21, ↓e_Node_begin_22, ↓e_Node_begin_25, not_true_eq_false, not_false_eq_true, one0, true_or, or_true, eq_self, bI_z, bI_nz, bI_o, b_ft, bI_1, bI_0, ↓kC_l, ↓kC_r, Option.toList_some, Option.toList_none, List.cons_append, List.nil_append, s1_0, s1_1i, s1_1r, s1_1w, s1_1n, s1_s, s2_0, s2_1i, s2_1r, s2_1w, s2_1n, s2_s, gI_sI, gI_sR, gI_sL, gI_sD, gR_sI, gR_sR, gR_sL, gR_sD, gL_sI, gL_sR, gL_sL, gL_sD, gD_sI, gD_sR, gD_sL, gD_sD, isK_sI, isK_sR, isK_sL, isK_sD, inL_sI, inL_sR, inL_sL, inL_sD, nx_sI, nx_sR, nx_sL, nx_sD, kd_sI, kd_sR, kd_sL, kd_sD, ln_sI, ln_sR, ln_sL, ln_sD, ↓reduceIte, c8_n, c8_1, c8_2, c8_3, c8_4, Nat.reduceAdd, l_nodes S hi, l_hear S hi, r_node S hi, r_queue S hi, r_set S hi, r_frames S hi, r_bits S hi, k_node S hi, k_queue S hi, k_frames S hi, k_set S hi, k_bits S hi, ii_nat (lt31 hi)]
theorem q_waitAgain (Q : MRes → Hp → Prop) (S : Str n h) {i : Nat} (hi : i < 8) (x : Int32) : WP Gm j_Node_waitAgain 0 [some (.inr (.inl (some (5 + 9 * i)))), some (.inl x)] [] h Q = Q (.inl none) (sI (sI (sI h (5 + 9 * i) 5 x) (5 + 9 * i) 12 (gI h (5 + 9 * i) 12 + x)) (5 + 9 * i) 13 (gI h (5 + 9 * i) 13 + 1)) := by
  simp only [↓e_Node_waitAgain_0, ↓e_Node_waitAgain_1, ↓e_Node_waitAgain_2, ↓e_Node_waitAgain_5, ↓e_Node_waitAgain_6, ↓e_Node_waitAgain_7, ↓e_Node_waitAgain_10, ↓e_Node_waitAgain_11, ↓e_Node_waitAgain_12, ↓e_Node_waitAgain_15, ↓e_Node_waitAgain_16, ↓e_Node_waitAgain_17, ↓e_Node_waitAgain_20, ↓e_Node_waitAgain_21, ↓e_Node_waitAgain_22, ↓e_Node_waitAgain_25, not_true_eq_false, not_false_eq_true, one0, true_or, or_true, eq_self, bI_z, bI_nz, bI_o, b_ft, bI_1, bI_0, ↓kC_l, ↓kC_r, Option.toList_some, Option.toList_none, List.cons_append, List.nil_append, s1_0, s1_1i, s1_1r, s1_1w, s1_1n, s1_s, s2_0, s2_1i, s2_1r, s2_1w, s2_1n, s2_s, gI_sI, gI_sR, gI_sL, gI_sD, gR_sI, gR_sR, gR_sL, gR_sD, gL_sI, gL_sR, gL_sL, gL_sD, gD_sI, gD_sR, gD_sL, gD_sD, isK_sI, isK_sR, isK_sL, isK_sD, inL_sI, inL_sR, inL_sL, inL_sD, nx_sI, nx_sR, nx_sL, nx_sD, kd_sI, kd_sR, kd_sL, kd_sD, ln_sI, ln_sR, ln_sL, ln_sD, ↓reduceIte, c8_n, c8_1, c8_2, c8_3, c8_4, Nat.reduceAdd, l_nodes S hi, l_hear S hi, r_node S hi, r_queue S hi, r_set S hi, r_frames S hi, r_bits S hi, k_node S hi, k_queue S hi, k_frames S hi, k_set S hi, k_bits S hi, ii_nat (lt31 hi), (show ¬ (12 : Nat) = 5 by decide), (show ¬ (13 : Nat) = 12 by decide), (show ¬ (13 : Nat) = 5 by decide), and_false, ↓reduceIte]
def ordF (h : Hp) (i : Nat) : Bool := (decide (gI h (5 + 9 * i) 7 = 0) || (decide (0 < gI h (6 + 9 * i) 1) && (decide (1 ≤ gI h (5 + 9 * i) 7) && decide (gI h (5 + 9 * i) 7 ≤ 3)))) && (decide (gI h (6 + 9 * i) 1 ≤ 4) && (decide (0 ≤ gI h (5 + 9 * i) 6) && decide (gI h (5 + 9 * i) 6 ≤ 4)))
theorem q_isInOrder (Q : MRes → Hp → Prop) (S : Str n h) {i : Nat} (hi : i < 8) : WP Gm j_Node_isInOrder 0 [some (.inr (.inl (some (5 + 9 * i)))), none] [] h Q = Q (.inl (some (.inl (bI (ordF h i))))) h := by
  have fin : ∀ b : Bool, WP Gm j_Node_isInOrder 34 [some (.inr (.inl (some (5 + 9 * i)))), none] [.inl (bI b)] h Q = Q (.inl (some (.inl (bI (b && (decide (gI h (6 + 9 * i) 1 ≤ 4) && (decide (0 ≤ gI h (5 + 9 * i) 6) && decide (gI h (5 + 9 * i) 6 ≤ 4)))))))) h := by
    intro b
    simp only [↓e_Node_isInOrder_0, ↓e_Node_isInOrder_1, ↓e_Node_isInOrder_4, ↓e_Node_isInOrder_7, ↓e_Node_isInOrder_8, ↓e_Node_isInOrder_11, ↓e_Node_isInOrder_14, ↓e_Node_isInOrder_17, ↓e_Node_isInOrder_18, ↓e_Node_isInOrder_21, ↓e_Node_isInOrder_22, ↓e_Node_isInOrder_23, ↓e_Node_isInOrder_26, ↓e_Node_isInOrder_29, ↓e_Node_isInOrder_30, ↓e_Node_isInOrder_33, ↓e_Node_isInOrder_34, ↓e_Node_isInOrder_35, ↓e_Node_isInOrder_36, ↓e_Node_isInOrder_39, ↓e_Node_isInOrder_40, ↓e_Node_isInOrder_43, ↓e_Node_isInOrder_46, ↓e_Node_isInOrder_47, ↓e_Node_isInOrder_50, ↓e_Node_isInOrder_51, ↓e_Node_isInOrder_54, ↓e_Node_isInOrder_55, ↓e_Node_isInOrder_56, ↓e_Node_isInOrder_59, ↓e_Node_isInOrder_62, ↓e_Node_isInOrder_63, ↓e_Node_isInOrder_66, ↓e_Node_isInOrder_67, not_true_eq_false, not_false_eq_true, one0, true_or, or_true, eq_self, bI_z, bI_nz, bI_o, b_ft, bI_1, bI_0, ↓kC_l, ↓kC_r, Option.toList_some, Option.toList_none, List.cons_append, List.nil_append, s1_0, s1_1i, s1_1r, s1_1w, s1_1n, s1_s, s2_0, s2_1i, s2_1r, s2_1w, s2_1n, s2_s, gI_sI, gI_sR, gI_sL, gI_sD, gR_sI, gR_sR, gR_sL, gR_sD, gL_sI, gL_sR, gL_sL, gL_sD, gD_sI, gD_sR, gD_sL, gD_sD, isK_sI, isK_sR, isK_sL, isK_sD, inL_sI, inL_sR, inL_sL, inL_sD, nx_sI, nx_sR, nx_sL, nx_sD, kd_sI, kd_sR, kd_sL, kd_sD, ln_sI, ln_sR, ln_sL, ln_sD, ↓reduceIte, c8_n, c8_1, c8_2, c8_3, c8_4, Nat.reduceAdd, l_nodes S hi, l_hear S hi, r_node S hi, r_queue S hi, r_set S hi, r_frames S hi, r_bits S hi, k_node S hi, k_queue S hi, k_frames S hi, k_set S hi, k_bits S hi, ii_nat (lt31 hi), q_isWithin]
    cases b
    · rfl
    · by_cases h1 : 4 < gI h (6 + 9 * i) 1
      · rw [if_pos h1, decide_eq_false (Int32.not_le.mpr h1)]; rfl
      · rw [if_neg h1, decide_eq_true (Int32.not_lt.mp h1)]
        cases decide (0 ≤ gI h (5 + 9 * i) 6) && decide (gI h (5 + 9 * i) 6 ≤ 4) <;> rfl
  simp only [↓e_Node_isInOrder_0, ↓e_Node_isInOrder_1, ↓e_Node_isInOrder_4, ↓e_Node_isInOrder_7, ↓e_Node_isInOrder_8, ↓e_Node_isInOrder_11, ↓e_Node_isInOrder_14, ↓e_Node_isInOrder_17, ↓e_Node_isInOrder_18, ↓e_Node_isInOrder_21, ↓e_Node_isInOrder_22, ↓e_Node_isInOrder_23, ↓e_Node_isInOrder_26, ↓e_Node_isInOrder_29, ↓e_Node_isInOrder_30, ↓e_Node_isInOrder_33, ↓e_Node_isInOrder_35, ↓e_Node_isInOrder_36, ↓e_Node_isInOrder_39, ↓e_Node_isInOrder_40, ↓e_Node_isInOrder_43, ↓e_Node_isInOrder_46, ↓e_Node_isInOrder_47, ↓e_Node_isInOrder_50, ↓e_Node_isInOrder_51, ↓e_Node_isInOrder_54, ↓e_Node_isInOrder_55, ↓e_Node_isInOrder_56, ↓e_Node_isInOrder_59, ↓e_Node_isInOrder_62, ↓e_Node_isInOrder_63, ↓e_Node_isInOrder_66, ↓e_Node_isInOrder_67, not_true_eq_false, not_false_eq_true, one0, true_or, or_true, eq_self, bI_z, bI_nz, bI_o, b_ft, bI_1, bI_0, ↓kC_l, ↓kC_r, Option.toList_some, Option.toList_none, List.cons_append, List.nil_append, s1_0, s1_1i, s1_1r, s1_1w, s1_1n, s1_s, s2_0, s2_1i, s2_1r, s2_1w, s2_1n, s2_s, gI_sI, gI_sR, gI_sL, gI_sD, gR_sI, gR_sR, gR_sL, gR_sD, gL_sI, gL_sR, gL_sL, gL_sD, gD_sI, gD_sR, gD_sL, gD_sD, isK_sI, isK_sR, isK_sL, isK_sD, inL_sI, inL_sR, inL_sL, inL_sD, nx_sI, nx_sR, nx_sL, nx_sD, kd_sI, kd_sR, kd_sL, kd_sD, ln_sI, ln_sR, ln_sL, ln_sD, ↓reduceIte, c8_n, c8_1, c8_2, c8_3, c8_4, Nat.reduceAdd, l_nodes S hi, l_hear S hi, r_node S hi, r_queue S hi, r_set S hi, r_frames S hi, r_bits S hi, k_node S hi, k_queue S hi, k_frames S hi, k_set S hi, k_bits S hi, ii_nat (lt31 hi), q_isWithin]
  have f1 := fin true
  have f0 := fin false
  rw [bI_1] at f1
  rw [bI_0] at f0
  rw [f1, f0]
  unfold ordF
  by_cases h0 : gI h (5 + 9 * i) 7 = 0
  · rw [if_pos h0, decide_eq_true h0]; rfl
  · rw [if_neg h0, decide_eq_false h0]
    by_cases h1 : gI h (6 + 9 * i) 1 ≤ 0
    · rw [if_pos h1, decide_eq_false (Int32.not_lt.mpr h1)]; rfl
    · rw [if_neg h1, decide_eq_true (Int32.not_le.mp h1)]
      cases decide (1 ≤ gI h (5 + 9 * i) 7) && decide (gI h (5 + 9 * i) 7 ≤ 3) <;> rfl
/-- a frame that lies in a queue: from, to, length, number as the document has them -/
def Vf (n : Nat) (h : Hp) (f : Nat) : Prop := ∃ fr to len num s, gI h f 0 = ii fr ∧ fr < n ∧ gI h f 1 = ii to ∧ to < n ∧ gI h f 2 = ii len ∧ 1 ≤ len ∧ len ≤ 3 ∧ gI h f 3 = ii num ∧ gI h (5 + 9 * fr) 14 = ii s ∧ num < s ∧ s ≤ 512
def QV (n : Nat) (h : Hp) (i : Nat) : Prop := ∃ q, q ≤ 4 ∧ gI h (6 + 9 * i) 1 = ii q ∧ ∀ k, k < q → ∃ f, f < 4 ∧ gR h (7 + 9 * i) k = some (8 + 9 * i + f) ∧ Vf n h (8 + 9 * i + f)
def wQ (i : Nat) : Nat → Nat → Prop := fun a k => (8 + 9 * i ≤ a ∧ a < 12 + 9 * i) ∨ (a = 6 + 9 * i ∧ k = 1)
theorem q_queueAdd (S : Str n h) {i : Nat} (hi : i < 8) (V : QV n h i) {fr to len num s : Nat} (v1 : fr < n) (v2 : to < n) (v3 : 1 ≤ len) (v4 : len ≤ 3) (v5 : gI h (5 + 9 * fr) 14 = ii s) (v6 : num < s) (v7 : s ≤ 512) (hops : Int32) :
    ∃ (b : Bool) (h' : Hp), (∀ Q, WP Gm j_FrameQueue_add 0 [some (.inr (.inl (some (6 + 9 * i)))), some (.inl (ii fr)), some (.inl (ii to)), some (.inl (ii len)), some (.inl (ii num)), some (.inl hops), none] [] h Q = Q (.inl (some (.inl (bI b)))) h') ∧ Fr (wQ i) nW nW h h' ∧ QV n h' i ∧ (¬ gI h (6 + 9 * i) 1 = 0 → ¬ gI h' (6 + 9 * i) 1 = 0) := by
  have hn := n8 S
  obtain ⟨q, hq4, hq, hV⟩ := V
  have e1 : (ii q < (4 : Int32)) = (q < 4) := ii_lt (j := 4) (by omega) (by omega)
  by_cases h4 : q < 4
  · obtain ⟨f, hf, hr⟩ := r_frame S hi h4
    have hne : ∀ j, ¬ (8 + 9 * i + f = 5 + 9 * j ) ∨ ¬ (f < 4) := fun j => by omega
    generalize hh' : sI (sI (sI (sI (sI (sI h (8 + 9 * i + f) 0 (ii fr)) (8 + 9 * i + f) 1 (ii to)) (8 + 9 * i + f) 2 (ii len)) (8 + 9 * i + f) 3 (ii num)) (8 + 9 * i + f) 4 hops) (6 + 9 * i) 1 (ii (q + 1)) = h'
    have F : Fr (wQ i) nW nW h h' := by
      rw [← hh']
      exact ((((((Fr.refl h).sI _ (by unfold wQ; omega)).sI _ (by unfold wQ; omega)).sI _ (by unfold wQ; omega)).sI _ (by unfold wQ; omega)).sI _ (by unfold wQ; omega)).sI _ (by unfold wQ; omega)
    have Vn : Vf n h' (8 + 9 * i + f) := by
      refine ⟨fr, to, len, num, s, ?_, v1, ?_, v2, ?_, v3, v4, ?_, ?_, v6, v7⟩
      · rw [← hh']; simp only [gI_sI]; rw [if_neg (by omega), if_neg (by omega), if_neg (by omega), if_neg (by omega), if_neg (by omega), if_pos (by simp)]
      · rw [← hh']; simp only [gI_sI]; rw [if_neg (by omega), if_neg (by omega), if_neg (by omega), if_neg (by omega), if_pos (by simp)]
      · rw [← hh']; simp only [gI_sI]; rw [if_neg (by omega), if_neg (by omega), if_neg (by omega), if_pos (by simp)]
      · rw [← hh']; simp only [gI_sI]; rw [if_neg (by omega), if_neg (by omega), if_pos (by simp)]
      · rw [F.1 _ _ (by unfold wQ; omega)]; exact v5
    refine ⟨true, h', fun Q => ?_, F, ⟨q + 1, by omega, ?_, fun k hk => ?_⟩, fun _ => ?_⟩
    · have e9 : ¬ 6 + 9 * i = 8 + 9 * i + f := by omega
      simp only [↓e_FrameQueue_add_0, ↓e_FrameQueue_add_1, ↓e_FrameQueue_add_4, ↓e_FrameQueue_add_5, ↓e_FrameQueue_add_8, ↓e_FrameQueue_add_9, ↓e_FrameQueue_add_10, ↓e_FrameQueue_add_11, ↓e_FrameQueue_add_14, ↓e_FrameQueue_add_15, ↓e_FrameQueue_add_18, ↓e_FrameQueue_add_19, ↓e_FrameQueue_add_21, ↓e_FrameQueue_add_23, ↓e_FrameQueue_add_24, ↓e_FrameQueue_add_27, ↓e_FrameQueue_add_29, ↓e_FrameQueue_add_30, ↓e_FrameQueue_add_33, ↓e_FrameQueue_add_35, ↓e_FrameQueue_add_36, ↓e_FrameQueue_add_39, ↓e_FrameQueue_add_41, ↓e_FrameQueue_add_43, ↓e_FrameQueue_add_46, ↓e_FrameQueue_add_48, ↓e_FrameQueue_add_50, ↓e_FrameQueue_add_53, ↓e_FrameQueue_add_54, ↓e_FrameQueue_add_55, ↓e_FrameQueue_add_58, ↓e_FrameQueue_add_59, ↓e_FrameQueue_add_60, ↓e_FrameQueue_add_63, ↓e_FrameQueue_add_64, not_true_eq_false, not_false_eq_true, one0, true_or, or_true, eq_self, bI_z, bI_nz, bI_o, b_ft, bI_1, bI_0, ↓kC_l, ↓kC_r, Option.toList_some, Option.toList_none, List.cons_append, List.nil_append, s1_0, s1_1i, s1_1r, s1_1w, s1_1n, s1_s, s2_0, s2_1i, s2_1r, s2_1w, s2_1n, s2_s, gI_sI, gI_sR, gI_sL, gI_sD, gR_sI, gR_sR, gR_sL, gR_sD, gL_sI, gL_sR, gL_sL, gL_sD, gD_sI, gD_sR, gD_sL, gD_sD, isK_sI, isK_sR, isK_sL, isK_sD, inL_sI, inL_sR, inL_sL, inL_sD, nx_sI, nx_sR, nx_sL, nx_sD, kd_sI, kd_sR, kd_sL, kd_sD, ln_sI, ln_sR, ln_sL, ln_sD, ↓reduceIte, c8_n, c8_1, c8_2, c8_3, c8_4, Nat.reduceAdd, k_s S, k_land S, k_nodes S, k_hear S, k_routes S, k_traffic S, k_market S, g_cnt S, r_land S, r_routes S, r_traffic S, r_market S, r_nodes S, r_hear S, r_rland S, r_tland S, r_troutes S, l_nodes S hi, l_hear S hi, r_node S hi, r_queue S hi, r_set S hi, r_frames S hi, r_bits S hi, k_node S hi, k_queue S hi, k_frames S hi, k_set S hi, k_bits S hi, ii_nat (lt31 hi), hq, e1, h4, l_frames S hi h4, ii_nat (show q < 2147483648 by omega), hr, k_frame S hi hf, e9, false_and, ii_succ, hh']
    · rw [← hh', gI_sI, if_pos ⟨rfl, rfl⟩]
    · by_cases hkq : k = q
      · subst hkq
        exact ⟨f, hf, by rw [F.2.1 _ _ (fun q => q)]; exact hr, Vn⟩
      · obtain ⟨f2, q1, q2, q3⟩ := hV k (by omega)
        refine ⟨f2, q1, by rw [F.2.1 _ _ (fun q => q)]; exact q2, ?_⟩
        by_cases hff : f2 = f
        · rw [hff]; exact Vn
        · obtain ⟨a1, a2, a3, a4, a5, b1, b2, b3, b4, b5, b6, b7, b8, b9, b10, b11⟩ := q3
          have hne2 : ∀ j, gI h' (8 + 9 * i + f2) j = gI h (8 + 9 * i + f2) j := fun j => by
            rw [← hh']; simp only [gI_sI]; rw [if_neg (by omega), if_neg (by omega), if_neg (by omega), if_neg (by omega), if_neg (by omega), if_neg (by omega)]
          exact ⟨a1, a2, a3, a4, a5, by rw [hne2]; exact b1, b2, by rw [hne2]; exact b3, b4, by rw [hne2]; exact b5, b6, b7, by rw [hne2]; exact b8, by rw [F.1 _ _ (by unfold wQ; omega)]; exact b9, b10, b11⟩
    · rw [← hh', gI_sI, if_pos ⟨rfl, rfl⟩, show (0 : Int32) = ii 0 from rfl, ii_inj (by omega) (by omega)]
      omega
  · refine ⟨false, h, fun Q => ?_, Fr.refl h, ⟨q, hq4, hq, hV⟩, fun q => q⟩
    simp only [↓e_FrameQueue_add_0, ↓e_FrameQueue_add_1, ↓e_FrameQueue_add_4, ↓e_FrameQueue_add_5, ↓e_FrameQueue_add_8, ↓e_FrameQueue_add_9, ↓e_FrameQueue_add_10, ↓e_FrameQueue_add_11, ↓e_FrameQueue_add_14, ↓e_FrameQueue_add_15, ↓e_FrameQueue_add_18, ↓e_FrameQueue_add_19, ↓e_FrameQueue_add_21, ↓e_FrameQueue_add_23, ↓e_FrameQueue_add_24, ↓e_FrameQueue_add_27, ↓e_FrameQueue_add_29, ↓e_FrameQueue_add_30, ↓e_FrameQueue_add_33, ↓e_FrameQueue_add_35, ↓e_FrameQueue_add_36, ↓e_FrameQueue_add_39, ↓e_FrameQueue_add_41, ↓e_FrameQueue_add_43, ↓e_FrameQueue_add_46, ↓e_FrameQueue_add_48, ↓e_FrameQueue_add_50, ↓e_FrameQueue_add_53, ↓e_FrameQueue_add_54, ↓e_FrameQueue_add_55, ↓e_FrameQueue_add_58, ↓e_FrameQueue_add_59, ↓e_FrameQueue_add_60, ↓e_FrameQueue_add_63, ↓e_FrameQueue_add_64, not_true_eq_false, not_false_eq_true, one0, true_or, or_true, eq_self, bI_z, bI_nz, bI_o, b_ft, bI_1, bI_0, ↓kC_l, ↓kC_r, Option.toList_some, Option.toList_none, List.cons_append, List.nil_append, s1_0, s1_1i, s1_1r, s1_1w, s1_1n, s1_s, s2_0, s2_1i, s2_1r, s2_1w, s2_1n, s2_s, gI_sI, gI_sR, gI_sL, gI_sD, gR_sI, gR_sR, gR_sL, gR_sD, gL_sI, gL_sR, gL_sL, gL_sD, gD_sI, gD_sR, gD_sL, gD_sD, isK_sI, isK_sR, isK_sL, isK_sD, inL_sI, inL_sR, inL_sL, inL_sD, nx_sI, nx_sR, nx_sL, nx_sD, kd_sI, kd_sR, kd_sL, kd_sD, ln_sI, ln_sR, ln_sL, ln_sD, ↓reduceIte, c8_n, c8_1, c8_2, c8_3, c8_4, Nat.reduceAdd, k_s S, k_land S, k_nodes S, k_hear S, k_routes S, k_traffic S, k_market S, g_cnt S, r_land S, r_routes S, r_traffic S, r_market S, r_nodes S, r_hear S, r_rland S, r_tland S, r_troutes S, l_nodes S hi, l_hear S hi, r_node S hi, r_queue S hi, r_set S hi, r_frames S hi, r_bits S hi, k_node S hi, k_queue S hi, k_frames S hi, k_set S hi, k_bits S hi, ii_nat (lt31 hi), hq, e1, h4]
/-- the structure when a queue's row is permuted -/
def wR (i : Nat) : Nat → Nat → Prop := fun a k => a = 7 + 9 * i ∧ k < 4
theorem Str.frq {h' : Hp} {WI WL : Nat → Nat → Prop} {i : Nat} (S : Str n h) (hi : i < 8) (F : Fr WI (wR i) WL h h') (h2 : ¬ WI 2 2) (hr : ∀ k, k < 4 → ∃ f, f < 4 ∧ gR h' (7 + 9 * i) k = some (8 + 9 * i + f)) : Str n h' := by
  have e : ∀ a k, a ≠ 7 + 9 * i → gR h' a k = gR h a k := fun a k ha => F.2.1 a k (fun q => ha q.1)
  obtain ⟨s1, s2, s3, s4, s5, s6, s7, s8, s9, s10⟩ := S
  refine ⟨s1.of F.2.2.2.1 F.2.2.2.2.1 F.2.2.2.2.2.1, ⟨s2.1, by rw [F.1 2 2 h2]; exact s2.2⟩, ?_, ?_, fun j hj => ?_, fun j hj k hk => ?_, ?_, ?_, fun j hj => ?_, ?_⟩
  · rw [e _ _ (by omega), e _ _ (by omega), e _ _ (by omega), e _ _ (by omega)]; exact s3
  · rw [e _ _ (by omega), e _ _ (by omega)]; exact s4
  · rw [e _ _ (by omega), e _ _ (by omega), e _ _ (by omega), e _ _ (by omega), e _ _ (by omega)]; exact s5 j hj
  · by_cases hji : j = i
    · subst hji; exact hr k hk
    · rw [e _ _ (by omega)]; exact s6 j hj k hk
  · rw [e _ _ (by omega), e _ _ (by omega), e _ _ (by omega)]; exact s7
  · rw [e _ _ (by omega), e _ _ (by omega), e _ _ (by omega), e _ _ (by omega), e _ _ (by omega)]; exact s8
  · rw [e _ _ (by omega), e _ _ (by omega), e _ _ (by omega), e _ _ (by omega)]; exact s9 j hj
  · rw [e _ _ (by omega), e _ _ (by omega), e _ _ (by omega), e _ _ (by omega)]; exact s10
def wS (i : Nat) : Nat → Nat → Prop := fun a k => a = 6 + 9 * i ∧ k = 1
theorem q_removeFirst (S : Str n h) {i : Nat} (hi : i < 8) (V : QV n h i) : ∃ h', (∀ Q, WP Gm j_FrameQueue_removeFirst 0 [some (.inr (.inl (some (6 + 9 * i)))), none, none] [] h Q = Q (.inl none) h') ∧ Fr (wS i) (wR i) nW h h' ∧ Str n h' ∧ QV n h' i := by
  obtain ⟨q, hq4, hq, hV⟩ := V
  have e1 : ((0 : Int32) < ii q) = (0 < q) := ii_lt (i := 0) (by omega) (by omega)
  by_cases h0 : 0 < q
  · obtain ⟨f0, hf0, hr0⟩ := r_frame S hi (show 0 < 4 by omega)
    obtain ⟨g, c1, -, F1, z1, z2⟩ := loopR (fun Q k (g : Hp) => WP Gm j_FrameQueue_removeFirst 17 [some (.inr (.inl (some (6 + 9 * i)))), some (.inr (.inl (some (8 + 9 * i + f0)))), some (.inl (ii k))] [] g Q)
      (fun k g => 1 ≤ k ∧ Fr nW (wR i) nW h g ∧ (∀ m, m + 1 < k → gR g (7 + 9 * i) m = gR h (7 + 9 * i) (m + 1)) ∧ ∀ m, k ≤ m + 1 → gR g (7 + 9 * i) m = gR h (7 + 9 * i) m) q
      (fun k g hk hI => by
        obtain ⟨hk0, I1, I2, I3⟩ := hI
        · have Sg : Str n g := S.frq hi I1 (fun q => q) (fun m hm => by
            by_cases hmk : m + 1 < k
            · rw [I2 m hmk]; exact r_frame S hi (by omega)
            · rw [I3 m (by omega)]; exact r_frame S hi hm)
          obtain ⟨f, hf, hr⟩ := r_frame Sg hi (show k < 4 by omega)
          have hgq : gI g (6 + 9 * i) 1 = ii q := by rw [I1.1 _ _ (fun q => q)]; exact hq
          have em : ii k - 1 = ii (k - 1) := by
            rw [ii_jj, ii_jj, show (1 : Int32) = jj 1 from rfl, jj_sub]
            congr 1
            omega
          refine ⟨sR g (7 + 9 * i) (k - 1) (some (8 + 9 * i + f)), fun Q => ?_, by omega, I1.sR _ ⟨rfl, by omega⟩, fun m hm => ?_, fun m hm => ?_⟩
          · rw [e_FrameQueue_removeFirst_17]
            simp only [↓e_FrameQueue_removeFirst_0, ↓e_FrameQueue_removeFirst_1, ↓e_FrameQueue_removeFirst_4, ↓e_FrameQueue_removeFirst_7, ↓e_FrameQueue_removeFirst_8, ↓e_FrameQueue_removeFirst_9, ↓e_FrameQueue_removeFirst_12, ↓e_FrameQueue_removeFirst_13, ↓e_FrameQueue_removeFirst_14, ↓e_FrameQueue_removeFirst_15, ↓e_FrameQueue_removeFirst_16, ↓e_FrameQueue_removeFirst_18, ↓e_FrameQueue_removeFirst_19, ↓e_FrameQueue_removeFirst_22, ↓e_FrameQueue_removeFirst_25, ↓e_FrameQueue_removeFirst_26, ↓e_FrameQueue_removeFirst_29, ↓e_FrameQueue_removeFirst_30, ↓e_FrameQueue_removeFirst_31, ↓e_FrameQueue_removeFirst_32, ↓e_FrameQueue_removeFirst_33, ↓e_FrameQueue_removeFirst_36, ↓e_FrameQueue_removeFirst_37, ↓e_FrameQueue_removeFirst_38, ↓e_FrameQueue_removeFirst_39, ↓e_FrameQueue_removeFirst_42, ↓e_FrameQueue_removeFirst_45, ↓e_FrameQueue_removeFirst_46, ↓e_FrameQueue_removeFirst_47, ↓e_FrameQueue_removeFirst_50, ↓e_FrameQueue_removeFirst_51, ↓e_FrameQueue_removeFirst_52, ↓e_FrameQueue_removeFirst_55, ↓e_FrameQueue_removeFirst_56, ↓e_FrameQueue_removeFirst_59, ↓e_FrameQueue_removeFirst_60, ↓e_FrameQueue_removeFirst_63, ↓e_FrameQueue_removeFirst_64, ↓e_FrameQueue_removeFirst_65, not_true_eq_false, not_false_eq_true, one0, true_or, or_true, eq_self, bI_z, bI_nz, bI_o, b_ft, bI_1, bI_0, ↓kC_l, ↓kC_r, Option.toList_some, Option.toList_none, List.cons_append, List.nil_append, s1_0, s1_1i, s1_1r, s1_1w, s1_1n, s1_s, s2_0, s2_1i, s2_1r, s2_1w, s2_1n, s2_s, gI_sI, gI_sR, gI_sL, gI_sD, gR_sI, gR_sR, gR_sL, gR_sD, gL_sI, gL_sR, gL_sL, gL_sD, gD_sI, gD_sR, gD_sL, gD_sD, isK_sI, isK_sR, isK_sL, isK_sD, inL_sI, inL_sR, inL_sL, inL_sD, nx_sI, nx_sR, nx_sL, nx_sD, kd_sI, kd_sR, kd_sL, kd_sD, ln_sI, ln_sR, ln_sL, ln_sD, ↓reduceIte, c8_n, c8_1, c8_2, c8_3, c8_4, Nat.reduceAdd, k_s Sg, k_land Sg, k_nodes Sg, k_hear Sg, k_routes Sg, k_traffic Sg, k_market Sg, g_cnt Sg, r_land Sg, r_routes Sg, r_traffic Sg, r_market Sg, r_nodes Sg, r_hear Sg, r_rland Sg, r_tland Sg, r_troutes Sg, l_nodes Sg hi, l_hear Sg hi, r_node Sg hi, r_queue Sg hi, r_set Sg hi, r_frames Sg hi, r_bits Sg hi, k_node Sg hi, k_queue Sg hi, k_frames Sg hi, k_set Sg hi, k_bits Sg hi, ii_nat (lt31 hi), hgq, lle_f (show q < 2147483648 by omega) hk, l_frames Sg hi (show k < 4 by omega), l_frames Sg hi (show k - 1 < 4 by omega), ii_nat (show k < 2147483648 by omega), ii_nat (show k - 1 < 2147483648 by omega), em, hr, k_frame Sg hi hf, ii_succ]
          · rw [gR_sR]
            by_cases hmk : m = k - 1
            · rw [if_pos ⟨rfl, hmk⟩, ← hr, I3 k (by omega), hmk, show k - 1 + 1 = k by omega]
            · rw [if_neg (fun q => hmk q.2)]; exact I2 m (by omega)
          · rw [gR_sR, if_neg (by omega)]; exact I3 m (by omega)) (q - 1) 1 h (by omega) ⟨Nat.le_refl 1, Fr.refl h, fun m hm => by omega, fun m hm => rfl⟩
    have Sg : Str n g := S.frq hi F1 (fun q => q) (fun m hm => by
      by_cases hmk : m + 1 < q
      · rw [z1 m hmk]; exact r_frame S hi (by omega)
      · rw [z2 m (by omega)]; exact r_frame S hi hm)
    have hgq : gI g (6 + 9 * i) 1 = ii q := by rw [F1.1 _ _ (fun q => q)]; exact hq
    have em : ii q - 1 = ii (q - 1) := by
      rw [ii_jj, ii_jj, show (1 : Int32) = jj 1 from rfl, jj_sub]
      congr 1
      omega
    have S2 : Str n (sI g (6 + 9 * i) 1 (ii (q - 1))) := Sg.sI _ (by omega)
    generalize hh' : sR (sI g (6 + 9 * i) 1 (ii (q - 1))) (7 + 9 * i) (q - 1) (some (8 + 9 * i + f0)) = h'
    have F : Fr (wS i) (wR i) nW h h' := by
      rw [← hh']
      exact ((F1.mono (fun _ _ q => q.elim) (fun _ _ q => q) (fun _ _ q => q)).sI _ ⟨rfl, rfl⟩).sR _ ⟨rfl, by omega⟩
    have hr' : ∀ m, gR h' (7 + 9 * i) m = if m = q - 1 then some (8 + 9 * i + f0) else gR g (7 + 9 * i) m := fun m => by
      rw [← hh', gR_sR, gR_sI]
      by_cases hm : m = q - 1
      · rw [if_pos ⟨rfl, hm⟩, if_pos hm]
      · rw [if_neg (fun q => hm q.2), if_neg hm]
    have S3 : Str n h' := S.frq hi F (by unfold wS; omega) (fun m hm => by
      rw [hr' m]
      split
      · exact ⟨f0, hf0, rfl⟩
      · exact r_frame Sg hi hm)
    refine ⟨h', fun Q => ?_, F, S3, q - 1, by omega, ?_, fun k hk => ?_⟩
    · simp only [↓e_FrameQueue_removeFirst_0, ↓e_FrameQueue_removeFirst_1, ↓e_FrameQueue_removeFirst_4, ↓e_FrameQueue_removeFirst_7, ↓e_FrameQueue_removeFirst_8, ↓e_FrameQueue_removeFirst_9, ↓e_FrameQueue_removeFirst_12, ↓e_FrameQueue_removeFirst_13, ↓e_FrameQueue_removeFirst_14, ↓e_FrameQueue_removeFirst_15, ↓e_FrameQueue_removeFirst_16, ↓e_FrameQueue_removeFirst_18, ↓e_FrameQueue_removeFirst_19, ↓e_FrameQueue_removeFirst_22, ↓e_FrameQueue_removeFirst_25, ↓e_FrameQueue_removeFirst_26, ↓e_FrameQueue_removeFirst_29, ↓e_FrameQueue_removeFirst_30, ↓e_FrameQueue_removeFirst_31, ↓e_FrameQueue_removeFirst_32, ↓e_FrameQueue_removeFirst_33, ↓e_FrameQueue_removeFirst_36, ↓e_FrameQueue_removeFirst_37, ↓e_FrameQueue_removeFirst_38, ↓e_FrameQueue_removeFirst_39, ↓e_FrameQueue_removeFirst_42, ↓e_FrameQueue_removeFirst_45, ↓e_FrameQueue_removeFirst_46, ↓e_FrameQueue_removeFirst_47, ↓e_FrameQueue_removeFirst_50, ↓e_FrameQueue_removeFirst_51, ↓e_FrameQueue_removeFirst_52, ↓e_FrameQueue_removeFirst_55, ↓e_FrameQueue_removeFirst_56, ↓e_FrameQueue_removeFirst_59, ↓e_FrameQueue_removeFirst_60, ↓e_FrameQueue_removeFirst_63, ↓e_FrameQueue_removeFirst_64, ↓e_FrameQueue_removeFirst_65, not_true_eq_false, not_false_eq_true, one0, true_or, or_true, eq_self, bI_z, bI_nz, bI_o, b_ft, bI_1, bI_0, ↓kC_l, ↓kC_r, Option.toList_some, Option.toList_none, List.cons_append, List.nil_append, s1_0, s1_1i, s1_1r, s1_1w, s1_1n, s1_s, s2_0, s2_1i, s2_1r, s2_1w, s2_1n, s2_s, gI_sI, gI_sR, gI_sL, gI_sD, gR_sI, gR_sR, gR_sL, gR_sD, gL_sI, gL_sR, gL_sL, gL_sD, gD_sI, gD_sR, gD_sL, gD_sD, isK_sI, isK_sR, isK_sL, isK_sD, inL_sI, inL_sR, inL_sL, inL_sD, nx_sI, nx_sR, nx_sL, nx_sD, kd_sI, kd_sR, kd_sL, kd_sD, ln_sI, ln_sR, ln_sL, ln_sD, ↓reduceIte, c8_n, c8_1, c8_2, c8_3, c8_4, Nat.reduceAdd, k_s S, k_land S, k_nodes S, k_hear S, k_routes S, k_traffic S, k_market S, g_cnt S, r_land S, r_routes S, r_traffic S, r_market S, r_nodes S, r_hear S, r_rland S, r_tland S, r_troutes S, l_nodes S hi, l_hear S hi, r_node S hi, r_queue S hi, r_set S hi, r_frames S hi, r_bits S hi, k_node S hi, k_queue S hi, k_frames S hi, k_set S hi, k_bits S hi, ii_nat (lt31 hi), hq, e1, h0, (show inL h (7 + 9 * i) 0 = true from l_frames (k := 0) S hi (by omega)), (show Int32.toNatClampNeg 0 = 0 by decide), hr0]
      refine (c1 Q).trans ?_
      rw [e_FrameQueue_removeFirst_17]
      simp only [↓e_FrameQueue_removeFirst_0, ↓e_FrameQueue_removeFirst_1, ↓e_FrameQueue_removeFirst_4, ↓e_FrameQueue_removeFirst_7, ↓e_FrameQueue_removeFirst_8, ↓e_FrameQueue_removeFirst_9, ↓e_FrameQueue_removeFirst_12, ↓e_FrameQueue_removeFirst_13, ↓e_FrameQueue_removeFirst_14, ↓e_FrameQueue_removeFirst_15, ↓e_FrameQueue_removeFirst_16, ↓e_FrameQueue_removeFirst_18, ↓e_FrameQueue_removeFirst_19, ↓e_FrameQueue_removeFirst_22, ↓e_FrameQueue_removeFirst_25, ↓e_FrameQueue_removeFirst_26, ↓e_FrameQueue_removeFirst_29, ↓e_FrameQueue_removeFirst_30, ↓e_FrameQueue_removeFirst_31, ↓e_FrameQueue_removeFirst_32, ↓e_FrameQueue_removeFirst_33, ↓e_FrameQueue_removeFirst_36, ↓e_FrameQueue_removeFirst_37, ↓e_FrameQueue_removeFirst_38, ↓e_FrameQueue_removeFirst_39, ↓e_FrameQueue_removeFirst_42, ↓e_FrameQueue_removeFirst_45, ↓e_FrameQueue_removeFirst_46, ↓e_FrameQueue_removeFirst_47, ↓e_FrameQueue_removeFirst_50, ↓e_FrameQueue_removeFirst_51, ↓e_FrameQueue_removeFirst_52, ↓e_FrameQueue_removeFirst_55, ↓e_FrameQueue_removeFirst_56, ↓e_FrameQueue_removeFirst_59, ↓e_FrameQueue_removeFirst_60, ↓e_FrameQueue_removeFirst_63, ↓e_FrameQueue_removeFirst_64, ↓e_FrameQueue_removeFirst_65, not_true_eq_false, not_false_eq_true, one0, true_or, or_true, eq_self, bI_z, bI_nz, bI_o, b_ft, bI_1, bI_0, ↓kC_l, ↓kC_r, Option.toList_some, Option.toList_none, List.cons_append, List.nil_append, s1_0, s1_1i, s1_1r, s1_1w, s1_1n, s1_s, s2_0, s2_1i, s2_1r, s2_1w, s2_1n, s2_s, gI_sI, gI_sR, gI_sL, gI_sD, gR_sI, gR_sR, gR_sL, gR_sD, gL_sI, gL_sR, gL_sL, gL_sD, gD_sI, gD_sR, gD_sL, gD_sD, isK_sI, isK_sR, isK_sL, isK_sD, inL_sI, inL_sR, inL_sL, inL_sD, nx_sI, nx_sR, nx_sL, nx_sD, kd_sI, kd_sR, kd_sL, kd_sD, ln_sI, ln_sR, ln_sL, ln_sD, ↓reduceIte, c8_n, c8_1, c8_2, c8_3, c8_4, Nat.reduceAdd, k_s Sg, k_land Sg, k_nodes Sg, k_hear Sg, k_routes Sg, k_traffic Sg, k_market Sg, g_cnt Sg, r_land Sg, r_routes Sg, r_traffic Sg, r_market Sg, r_nodes Sg, r_hear Sg, r_rland Sg, r_tland Sg, r_troutes Sg, l_nodes Sg hi, l_hear Sg hi, r_node Sg hi, r_queue Sg hi, r_set Sg hi, r_frames Sg hi, r_bits Sg hi, k_node Sg hi, k_queue Sg hi, k_frames Sg hi, k_set Sg hi, k_bits Sg hi, ii_nat (lt31 hi), hgq, lle_t (show q < 2147483648 by omega), em, l_frames Sg hi (show q - 1 < 4 by omega), ii_nat (show q - 1 < 2147483648 by omega), k_frame Sg hi hf0, and_self, hh']
    · rw [← hh', gI_sR, gI_sI, if_pos ⟨rfl, rfl⟩]
    · obtain ⟨f, p1, p2, p3⟩ := hV (k + 1) (by omega)
      refine ⟨f, p1, ?_, ?_⟩
      · rw [hr' k, if_neg (by omega), z1 k (by omega)]; exact p2
      · obtain ⟨a1, a2, a3, a4, a5, b1, b2, b3, b4, b5, b6, b7, b8, b9, b10, b11⟩ := p3
        have hh : ∀ a k, ¬ (a = 6 + 9 * i) → gI h' a k = gI h a k := fun a k ha => F.1 a k (fun q => ha q.1)
        exact ⟨a1, a2, a3, a4, a5, by rw [hh _ _ (by omega)]; exact b1, b2, by rw [hh _ _ (by omega)]; exact b3, b4, by rw [hh _ _ (by omega)]; exact b5, b6, b7, by rw [hh _ _ (by omega)]; exact b8, by rw [hh _ _ (by omega)]; exact b9, b10, b11⟩
  · refine ⟨h, fun Q => ?_, Fr.refl h, S, q, hq4, hq, hV⟩
    simp only [↓e_FrameQueue_removeFirst_0, ↓e_FrameQueue_removeFirst_1, ↓e_FrameQueue_removeFirst_4, ↓e_FrameQueue_removeFirst_7, ↓e_FrameQueue_removeFirst_8, ↓e_FrameQueue_removeFirst_9, ↓e_FrameQueue_removeFirst_12, ↓e_FrameQueue_removeFirst_13, ↓e_FrameQueue_removeFirst_14, ↓e_FrameQueue_removeFirst_15, ↓e_FrameQueue_removeFirst_16, ↓e_FrameQueue_removeFirst_18, ↓e_FrameQueue_removeFirst_19, ↓e_FrameQueue_removeFirst_22, ↓e_FrameQueue_removeFirst_25, ↓e_FrameQueue_removeFirst_26, ↓e_FrameQueue_removeFirst_29, ↓e_FrameQueue_removeFirst_30, ↓e_FrameQueue_removeFirst_31, ↓e_FrameQueue_removeFirst_32, ↓e_FrameQueue_removeFirst_33, ↓e_FrameQueue_removeFirst_36, ↓e_FrameQueue_removeFirst_37, ↓e_FrameQueue_removeFirst_38, ↓e_FrameQueue_removeFirst_39, ↓e_FrameQueue_removeFirst_42, ↓e_FrameQueue_removeFirst_45, ↓e_FrameQueue_removeFirst_46, ↓e_FrameQueue_removeFirst_47, ↓e_FrameQueue_removeFirst_50, ↓e_FrameQueue_removeFirst_51, ↓e_FrameQueue_removeFirst_52, ↓e_FrameQueue_removeFirst_55, ↓e_FrameQueue_removeFirst_56, ↓e_FrameQueue_removeFirst_59, ↓e_FrameQueue_removeFirst_60, ↓e_FrameQueue_removeFirst_63, ↓e_FrameQueue_removeFirst_64, ↓e_FrameQueue_removeFirst_65, not_true_eq_false, not_false_eq_true, one0, true_or, or_true, eq_self, bI_z, bI_nz, bI_o, b_ft, bI_1, bI_0, ↓kC_l, ↓kC_r, Option.toList_some, Option.toList_none, List.cons_append, List.nil_append, s1_0, s1_1i, s1_1r, s1_1w, s1_1n, s1_s, s2_0, s2_1i, s2_1r, s2_1w, s2_1n, s2_s, gI_sI, gI_sR, gI_sL, gI_sD, gR_sI, gR_sR, gR_sL, gR_sD, gL_sI, gL_sR, gL_sL, gL_sD, gD_sI, gD_sR, gD_sL, gD_sD, isK_sI, isK_sR, isK_sL, isK_sD, inL_sI, inL_sR, inL_sL, inL_sD, nx_sI, nx_sR, nx_sL, nx_sD, kd_sI, kd_sR, kd_sL, kd_sD, ln_sI, ln_sR, ln_sL, ln_sD, ↓reduceIte, c8_n, c8_1, c8_2, c8_3, c8_4, Nat.reduceAdd, k_s S, k_land S, k_nodes S, k_hear S, k_routes S, k_traffic S, k_market S, g_cnt S, r_land S, r_routes S, r_traffic S, r_market S, r_nodes S, r_hear S, r_rland S, r_tland S, r_troutes S, l_nodes S hi, l_hear S hi, r_node S hi, r_queue S hi, r_set S hi, r_frames S hi, r_bits S hi, k_node S hi, k_queue S hi, k_frames S hi, k_set S hi, k_bits S hi, ii_nat (lt31 hi), hq, e1, h0]
theorem q_finishFirst (S : Str n h) {i : Nat} (hi : i < 8) (V : QV n h i) : ∃ h', (∀ Q, WP Gm j_Node_finishFirst 0 [some (.inr (.inl (some (5 + 9 * i))))] [] h Q = Q (.inl none) h') ∧ Fr (fun a k => wS i a k ∨ (a = 5 + 9 * i ∧ k = 6)) (wR i) nW h h' ∧ Str n h' ∧ QV n h' i ∧ gI h' (5 + 9 * i) 6 = 0 := by
  obtain ⟨g, c1, F1, S1, V1⟩ := q_removeFirst S hi V
  have hn := n8 S
  refine ⟨sI g (5 + 9 * i) 6 0, fun Q => ?_, (F1.mono (fun _ _ q => Or.inl q) (fun _ _ q => q) (fun _ _ q => q)).sI _ (Or.inr ⟨rfl, rfl⟩), S1.sI _ (by omega), ?_, ?_⟩
  · simp only [↓e_Node_finishFirst_0, ↓e_Node_finishFirst_1, ↓e_Node_finishFirst_4, ↓e_Node_finishFirst_7, ↓e_Node_finishFirst_8, ↓e_Node_finishFirst_9, ↓e_Node_finishFirst_12, not_true_eq_false, not_false_eq_true, one0, true_or, or_true, eq_self, bI_z, bI_nz, bI_o, b_ft, bI_1, bI_0, ↓kC_l, ↓kC_r, Option.toList_some, Option.toList_none, List.cons_append, List.nil_append, s1_0, s1_1i, s1_1r, s1_1w, s1_1n, s1_s, s2_0, s2_1i, s2_1r, s2_1w, s2_1n, s2_s, gI_sI, gI_sR, gI_sL, gI_sD, gR_sI, gR_sR, gR_sL, gR_sD, gL_sI, gL_sR, gL_sL, gL_sD, gD_sI, gD_sR, gD_sL, gD_sD, isK_sI, isK_sR, isK_sL, isK_sD, inL_sI, inL_sR, inL_sL, inL_sD, nx_sI, nx_sR, nx_sL, nx_sD, kd_sI, kd_sR, kd_sL, kd_sD, ln_sI, ln_sR, ln_sL, ln_sD, ↓reduceIte, c8_n, c8_1, c8_2, c8_3, c8_4, Nat.reduceAdd, l_nodes S hi, l_hear S hi, r_node S hi, r_queue S hi, r_set S hi, r_frames S hi, r_bits S hi, k_node S hi, k_queue S hi, k_frames S hi, k_set S hi, k_bits S hi, ii_nat (lt31 hi), c1, k_node S1 hi]
  · obtain ⟨q, p1, p2, p3⟩ := V1
    refine ⟨q, p1, by rw [gI_sI, if_neg (by omega)]; exact p2, fun k hk => ?_⟩
    obtain ⟨f, r1, r2, a1, a2, a3, a4, a5, b1, b2, b3, b4, b5, b6, b7, b8, b9, b10, b11⟩ := p3 k hk
    exact ⟨f, r1, r2, a1, a2, a3, a4, a5, by rw [gI_sI, if_neg (by omega)]; exact b1, b2, by rw [gI_sI, if_neg (by omega)]; exact b3, b4, by rw [gI_sI, if_neg (by omega)]; exact b5, b6, b7, by rw [gI_sI, if_neg (by omega)]; exact b8, by rw [gI_sI, if_neg (by omega)]; exact b9, b10, b11⟩
  · rw [gI_sI, if_pos ⟨rfl, rfl⟩]
end NODE
