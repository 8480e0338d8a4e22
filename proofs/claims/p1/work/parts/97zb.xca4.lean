/-! xca4: a turn, a sending, a slot of the country in values -/
def VS9 (n : Nat) (α : As) : Prop := ∀ i, i < n → 0 < α.1 i 7 → ∃ x, x < n ∧ α.1 i 8 = ii x
section XC4
variable {n : Nat} {h h' : Hp} {α β : As}
/-- what the invariants say of the values -/
theorem ai_vq (A : AI n h) (V : CA n h α) : VQ n α := fun i hi => by
  obtain ⟨q1, q2, q3⟩ := V.2.1 i hi
  obtain ⟨⟨q, p1, p2, p3⟩, -⟩ := A.2.2.1 i hi
  have eq : q = α.2.1 i := by
    have := p2.symm.trans q1
    rwa [ii_inj (by omega) (by omega)] at this
  subst eq
  refine ⟨q2, fun k hk => ?_⟩
  obtain ⟨f, f1, f2, f3⟩ := q3 k hk
  obtain ⟨f', g1, g2, fr, to, len, num, s, b1, b2, b3, b4, b5, b6, b7, b8, b9, b10, b11⟩ := p3 k hk
  have ef : f' = f := by
    have := g2.symm.trans f2
    have := Option.some.inj this
    omega
  subst ef
  exact ⟨fr, to, num, (f3 0 (by omega)).symm.trans b1, b2, (f3 1 (by omega)).symm.trans b3, b4, (f3 3 (by omega)).symm.trans b8, by omega⟩
theorem ai_7 (A : AI n h) (V : CA n h α) {i : Nat} (hi : i < n) : ∃ tc, tc ≤ 3 ∧ α.1 i 7 = ii tc ∧ gI h (5 + 9 * i) 7 = ii tc ∧ (tc ≠ 0 → ¬ α.2.1 i = 0) ∧ (0 < α.1 i 7 ↔ 0 < tc) := by
  obtain ⟨-, -, ⟨tc, t1, t2, t3⟩, -⟩ := A.2.2.1 i hi
  have e7 := V.1 i hi 7 (by omega) (by omega)
  have e : ((0 : Int32) < ii tc) = (0 < tc) := ii_lt (i := 0) (by omega) (by omega)
  refine ⟨tc, t1, e7.symm.trans t2, t2, fun w q => t3 w ?_, ?_⟩
  · rw [(V.2.1 i hi).1, q]; rfl
  · rw [← e7, t2, e]
theorem ai_6 (A : AI n h) (V : CA n h α) {i : Nat} (hi : i < n) : ∃ t, t ≤ 4 ∧ α.1 i 6 = ii t := by
  obtain ⟨-, ⟨t, t1, t2⟩, -⟩ := A.2.2.1 i hi
  exact ⟨t, t1, (V.1 i hi 6 (by omega) (by omega)).symm.trans t2⟩
theorem rt_unique {c d : Nat} (R : Rt h c) (R2 : Rt h d) : c = d := Option.some.inj (R.2.1.symm.trans R2.2.1)
theorem ai_rt (A : AI n h) (V : CA n h α) {i j : Nat} (hi : i < n) (hj : j < 8) : α.1 (70 + i) j = -1 ∨ ∃ r d, r < n ∧ r ≠ i ∧ α.1 (70 + i) j = ii r ∧ 1 ≤ d ∧ d ≤ 8 ∧ α.1 (60 + i) j = ii d := by
  have hn := n8 A.1
  obtain ⟨-, c, R, I1, -⟩ := A.2.1
  obtain ⟨d, R2, w1, -⟩ := V.2.2.2.2.2.2.1
  have := rt_unique R R2
  subst this
  obtain ⟨e1, e2⟩ := w1 i hi j hj
  rw [← e1, ← e2]
  exact I1 i j (by omega) hj
theorem VS_trn (A : AI n h) (V : CA n h α) (W : VS9 n α) {i : Nat} (hi : i < n) (hq : ¬ α.2.1 i = 0) : VS9 n (trn9 α i) := fun j hj w => by
  have hn := n8 A.1
  unfold trn9 at w ⊢
  obtain ⟨a, t, b, w0, ha, w1, ht, w3, hb⟩ := (ai_vq A V i hi).2 0 (by omega)
  rw [w1, tn_ii (show t < 2147483648 by omega)] at w ⊢
  have e1 : ∀ k, (drp9 α i).1 j k = if j = i ∧ k = 6 then 0 else α.1 j k := fun k => by
    unfold drp9
    rw [asV_n _ _ (by omega)]
    rfl
  by_cases h5 : α.1 i 5 ≤ 0
  · rw [if_pos h5] at w ⊢
    by_cases hr : α.1 (70 + i) t = -1
    · rw [if_pos hr] at w ⊢
      rw [e1, if_neg (by omega)] at w ⊢
      exact W j hj w
    · rw [if_neg hr] at w ⊢
      by_cases e : j = i
      · subst e
        rcases ai_rt A V hj (show t < 8 by omega) with q | ⟨r, d, r1, r2, r3, -⟩
        · exact absurd q hr
        · refine ⟨r, r1, ?_⟩
          unfold beg9
          rw [asV_n _ _ (by omega), asV_n _ _ (by omega), asV_n _ _ (by omega), asV_s, r3]
      · unfold beg9 at w ⊢
        rw [asV_n _ _ (fun w => e w.1), asV_n _ _ (fun w => e w.1), asV_n _ _ (fun w => e w.1), asV_n _ _ (fun w => e w.1)] at w ⊢
        exact W j hj w
  · rw [if_neg h5] at w ⊢
    rw [asV_n _ _ (by omega)] at w ⊢
    exact W j hj w
theorem ca_turn (A : AI n h) (V : CA n h α) {i : Nat} (hi : i < n) (h7 : gI h (5 + 9 * i) 7 = 0) : ∃ h', (∀ Q, WP Gm j_Traffic_takeTurn 0 [some (.inr (.inl (some 114))), some (.inl (ii i)), none, none, none] [] h Q = Q (.inl none) h') ∧ AI n h' ∧ CA n h' (if α.2.1 i = 0 then α else trn9 α i) := by
  have S := A.1
  have hn := n8 S
  have hi8 : i < 8 := by omega
  suffices hh : ∃ h', (∀ Q, WP Gm j_Traffic_takeTurn 0 [some (.inr (.inl (some 114))), some (.inl (ii i)), none, none, none] [] h Q = Q (.inl none) h') ∧ CA n h' (if α.2.1 i = 0 then α else trn9 α i) by
    obtain ⟨g, g1, g2, -⟩ := q_takeTurn A hi h7
    obtain ⟨u, u1, u2⟩ := hh
    obtain ⟨-, rfl⟩ := det g1 u1
    exact ⟨g, g1, g2, u2⟩
  obtain ⟨hq, hq4, hV⟩ := V.2.1 i hi
  by_cases h0 : α.2.1 i = 0
  · rw [if_pos h0]
    refine ⟨h, fun Q => ?_, V⟩
    simp only [↓e_Traffic_takeTurn_0, ↓e_Traffic_takeTurn_1, ↓e_Traffic_takeTurn_4, ↓e_Traffic_takeTurn_7, ↓e_Traffic_takeTurn_8, ↓e_Traffic_takeTurn_9, ↓e_Traffic_takeTurn_10, ↓e_Traffic_takeTurn_11, ↓e_Traffic_takeTurn_14, ↓e_Traffic_takeTurn_15, ↓e_Traffic_takeTurn_18, ↓e_Traffic_takeTurn_19, ↓e_Traffic_takeTurn_20, ↓e_Traffic_takeTurn_23, ↓e_Traffic_takeTurn_24, ↓e_Traffic_takeTurn_25, ↓e_Traffic_takeTurn_28, ↓e_Traffic_takeTurn_31, ↓e_Traffic_takeTurn_32, ↓e_Traffic_takeTurn_33, ↓e_Traffic_takeTurn_36, ↓e_Traffic_takeTurn_37, ↓e_Traffic_takeTurn_38, ↓e_Traffic_takeTurn_41, ↓e_Traffic_takeTurn_42, ↓e_Traffic_takeTurn_43, ↓e_Traffic_takeTurn_46, ↓e_Traffic_takeTurn_47, ↓e_Traffic_takeTurn_48, ↓e_Traffic_takeTurn_51, ↓e_Traffic_takeTurn_56, ↓e_Traffic_takeTurn_58, ↓e_Traffic_takeTurn_59, ↓e_Traffic_takeTurn_62, ↓e_Traffic_takeTurn_63, ↓e_Traffic_takeTurn_64, ↓e_Traffic_takeTurn_67, ↓e_Traffic_takeTurn_70, ↓e_Traffic_takeTurn_71, ↓e_Traffic_takeTurn_72, ↓e_Traffic_takeTurn_75, ↓e_Traffic_takeTurn_77, ↓e_Traffic_takeTurn_80, not_true_eq_false, not_false_eq_true, one0, true_or, or_true, eq_self, bI_z, bI_nz, bI_o, b_ft, bI_1, bI_0, ↓kC_l, ↓kC_r, Option.toList_some, Option.toList_none, List.cons_append, List.nil_append, s1_0, s1_1i, s1_1r, s1_1w, s1_1n, s1_s, s2_0, s2_1i, s2_1r, s2_1w, s2_1n, s2_s, gI_sI, gI_sR, gI_sL, gI_sD, gR_sI, gR_sR, gR_sL, gR_sD, gL_sI, gL_sR, gL_sL, gL_sD, gD_sI, gD_sR, gD_sL, gD_sD, isK_sI, isK_sR, isK_sL, isK_sD, inL_sI, inL_sR, inL_sL, inL_sD, nx_sI, nx_sR, nx_sL, nx_sD, kd_sI, kd_sR, kd_sL, kd_sD, ln_sI, ln_sR, ln_sL, ln_sD, ↓reduceIte, c8_n, c8_1, c8_2, c8_3, c8_4, Nat.reduceAdd, k_s S, k_land S, k_nodes S, k_hear S, k_routes S, k_traffic S, k_market S, g_cnt S, r_land S, r_routes S, r_traffic S, r_market S, r_nodes S, r_hear S, r_rland S, r_tland S, r_troutes S, l_nodes S hi8, l_hear S hi8, r_node S hi8, r_queue S hi8, r_set S hi8, r_frames S hi8, r_bits S hi8, k_node S hi8, k_queue S hi8, k_frames S hi8, k_set S hi8, k_bits S hi8, ii_nat (lt31 hi8), q_at0 _ S hi8 hq hq4, (show ¬ 0 < α.2.1 i by omega), Option.isNone_none]
  · rw [if_neg h0]
    have h0' : 0 < α.2.1 i := by omega
    obtain ⟨f, f1, f2, f3⟩ := hV 0 h0'
    have hF : isK h (8 + 9 * i + f) kc_Frame = true := k_frame S hi8 f1
    obtain ⟨a, t, b, w0, ha, w1, ht, w3, hb⟩ := (ai_vq A V i hi).2 0 h0'
    have ht8 : t < 8 := by omega
    have b3 : gI h (8 + 9 * i + f) 1 = ii t := (f3 1 (by omega)).trans w1
    have b5 : gI h (8 + 9 * i + f) 2 = α.2.2.1 i 0 2 := f3 2 (by omega)
    have e5 : gI h (5 + 9 * i) 5 = α.1 i 5 := V.1 i hi 5 (by omega) (by omega)
    have e11 : gI h (5 + 9 * i) 11 = α.1 i 11 := V.1 i hi 11 (by omega) (by omega)
    obtain ⟨c, R, wv, -⟩ := V.2.2.2.2.2.2.1
    have er : gI h (c + 9 + 1 + i) t = α.1 (70 + i) t := (wv i hi t ht8).2
    unfold trn9
    rw [w1, tn_ii (show t < 2147483648 by omega)]
    by_cases hw : α.1 i 5 ≤ 0
    · rw [if_pos hw]
      have pre : ∀ Q, WP Gm j_Traffic_takeTurn 0 [some (.inr (.inl (some 114))), some (.inl (ii i)), none, none, none] [] h Q = WP Gm j_Traffic_takeTurn 54 [some (.inr (.inl (some 114))), some (.inl (ii i)), some (.inr (.inl (some (5 + 9 * i)))), some (.inr (.inl (some (8 + 9 * i + f)))), none] [.inl (α.1 (70 + i) t)] h Q := by
        intro Q
        simp only [↓e_Traffic_takeTurn_0, ↓e_Traffic_takeTurn_1, ↓e_Traffic_takeTurn_4, ↓e_Traffic_takeTurn_7, ↓e_Traffic_takeTurn_8, ↓e_Traffic_takeTurn_9, ↓e_Traffic_takeTurn_10, ↓e_Traffic_takeTurn_11, ↓e_Traffic_takeTurn_14, ↓e_Traffic_takeTurn_15, ↓e_Traffic_takeTurn_18, ↓e_Traffic_takeTurn_19, ↓e_Traffic_takeTurn_20, ↓e_Traffic_takeTurn_23, ↓e_Traffic_takeTurn_24, ↓e_Traffic_takeTurn_25, ↓e_Traffic_takeTurn_28, ↓e_Traffic_takeTurn_31, ↓e_Traffic_takeTurn_32, ↓e_Traffic_takeTurn_33, ↓e_Traffic_takeTurn_36, ↓e_Traffic_takeTurn_37, ↓e_Traffic_takeTurn_38, ↓e_Traffic_takeTurn_41, ↓e_Traffic_takeTurn_42, ↓e_Traffic_takeTurn_43, ↓e_Traffic_takeTurn_46, ↓e_Traffic_takeTurn_47, ↓e_Traffic_takeTurn_48, ↓e_Traffic_takeTurn_51, ↓e_Traffic_takeTurn_56, ↓e_Traffic_takeTurn_58, ↓e_Traffic_takeTurn_59, ↓e_Traffic_takeTurn_62, ↓e_Traffic_takeTurn_63, ↓e_Traffic_takeTurn_64, ↓e_Traffic_takeTurn_67, ↓e_Traffic_takeTurn_70, ↓e_Traffic_takeTurn_71, ↓e_Traffic_takeTurn_72, ↓e_Traffic_takeTurn_75, ↓e_Traffic_takeTurn_77, ↓e_Traffic_takeTurn_80, not_true_eq_false, not_false_eq_true, one0, true_or, or_true, eq_self, bI_z, bI_nz, bI_o, b_ft, bI_1, bI_0, ↓kC_l, ↓kC_r, Option.toList_some, Option.toList_none, List.cons_append, List.nil_append, s1_0, s1_1i, s1_1r, s1_1w, s1_1n, s1_s, s2_0, s2_1i, s2_1r, s2_1w, s2_1n, s2_s, gI_sI, gI_sR, gI_sL, gI_sD, gR_sI, gR_sR, gR_sL, gR_sD, gL_sI, gL_sR, gL_sL, gL_sD, gD_sI, gD_sR, gD_sL, gD_sD, isK_sI, isK_sR, isK_sL, isK_sD, inL_sI, inL_sR, inL_sL, inL_sD, nx_sI, nx_sR, nx_sL, nx_sD, kd_sI, kd_sR, kd_sL, kd_sD, ln_sI, ln_sR, ln_sL, ln_sD, ↓reduceIte, c8_n, c8_1, c8_2, c8_3, c8_4, Nat.reduceAdd, k_s S, k_land S, k_nodes S, k_hear S, k_routes S, k_traffic S, k_market S, g_cnt S, r_land S, r_routes S, r_traffic S, r_market S, r_nodes S, r_hear S, r_rland S, r_tland S, r_troutes S, l_nodes S hi8, l_hear S hi8, r_node S hi8, r_queue S hi8, r_set S hi8, r_frames S hi8, r_bits S hi8, k_node S hi8, k_queue S hi8, k_frames S hi8, k_set S hi8, k_bits S hi8, ii_nat (lt31 hi8), q_at0 _ S hi8 hq hq4, h0', f2, Option.isNone_some, Bool.false_eq_true, e5, hw, hF, b3, q_nextOf _ S R hi8 ht8, hi, ht, and_self, er]
      by_cases hm : α.1 (70 + i) t = -1
      · rw [if_pos hm]
        obtain ⟨g, r1, r2, r3⟩ := ca_drop V S hi h0
        refine ⟨g, fun Q => ?_, r3⟩
        rw [pre, hm]
        simp only [↓e_Traffic_takeTurn_0, ↓e_Traffic_takeTurn_1, ↓e_Traffic_takeTurn_4, ↓e_Traffic_takeTurn_7, ↓e_Traffic_takeTurn_8, ↓e_Traffic_takeTurn_9, ↓e_Traffic_takeTurn_10, ↓e_Traffic_takeTurn_11, ↓e_Traffic_takeTurn_14, ↓e_Traffic_takeTurn_15, ↓e_Traffic_takeTurn_18, ↓e_Traffic_takeTurn_19, ↓e_Traffic_takeTurn_20, ↓e_Traffic_takeTurn_23, ↓e_Traffic_takeTurn_24, ↓e_Traffic_takeTurn_25, ↓e_Traffic_takeTurn_28, ↓e_Traffic_takeTurn_31, ↓e_Traffic_takeTurn_32, ↓e_Traffic_takeTurn_33, ↓e_Traffic_takeTurn_36, ↓e_Traffic_takeTurn_37, ↓e_Traffic_takeTurn_38, ↓e_Traffic_takeTurn_41, ↓e_Traffic_takeTurn_42, ↓e_Traffic_takeTurn_43, ↓e_Traffic_takeTurn_46, ↓e_Traffic_takeTurn_47, ↓e_Traffic_takeTurn_48, ↓e_Traffic_takeTurn_51, ↓e_Traffic_takeTurn_54, ↓e_Traffic_takeTurn_56, ↓e_Traffic_takeTurn_58, ↓e_Traffic_takeTurn_59, ↓e_Traffic_takeTurn_62, ↓e_Traffic_takeTurn_63, ↓e_Traffic_takeTurn_64, ↓e_Traffic_takeTurn_67, ↓e_Traffic_takeTurn_70, ↓e_Traffic_takeTurn_71, ↓e_Traffic_takeTurn_72, ↓e_Traffic_takeTurn_75, ↓e_Traffic_takeTurn_77, ↓e_Traffic_takeTurn_80, not_true_eq_false, not_false_eq_true, one0, true_or, or_true, eq_self, bI_z, bI_nz, bI_o, b_ft, bI_1, bI_0, ↓kC_l, ↓kC_r, Option.toList_some, Option.toList_none, List.cons_append, List.nil_append, s1_0, s1_1i, s1_1r, s1_1w, s1_1n, s1_s, s2_0, s2_1i, s2_1r, s2_1w, s2_1n, s2_s, gI_sI, gI_sR, gI_sL, gI_sD, gR_sI, gR_sR, gR_sL, gR_sD, gL_sI, gL_sR, gL_sL, gL_sD, gD_sI, gD_sR, gD_sL, gD_sD, isK_sI, isK_sR, isK_sL, isK_sD, inL_sI, inL_sR, inL_sL, inL_sD, nx_sI, nx_sR, nx_sL, nx_sD, kd_sI, kd_sR, kd_sL, kd_sD, ln_sI, ln_sR, ln_sL, ln_sD, ↓reduceIte, c8_n, c8_1, c8_2, c8_3, c8_4, Nat.reduceAdd, k_s S, k_land S, k_nodes S, k_hear S, k_routes S, k_traffic S, k_market S, g_cnt S, r_land S, r_routes S, r_traffic S, r_market S, r_nodes S, r_hear S, r_rland S, r_tland S, r_troutes S, l_nodes S hi8, l_hear S hi8, r_node S hi8, r_queue S hi8, r_set S hi8, r_frames S hi8, r_bits S hi8, k_node S hi8, k_queue S hi8, k_frames S hi8, k_set S hi8, k_bits S hi8, ii_nat (lt31 hi8), r1]
      · rw [if_neg hm]
        generalize hv : α.1 (70 + i) t = v at *
        have hne : (v = -1) = False := eq_false hm
        refine ⟨sI (sI (sI (sI h (5 + 9 * i) 11 (α.1 i 11 + 1)) (5 + 9 * i) 7 (α.2.2.1 i 0 2)) (5 + 9 * i) 8 v) (5 + 9 * i) 9 1, fun Q => ?_, ?_⟩
        · rw [pre]
          simp only [↓e_Traffic_takeTurn_0, ↓e_Traffic_takeTurn_1, ↓e_Traffic_takeTurn_4, ↓e_Traffic_takeTurn_7, ↓e_Traffic_takeTurn_8, ↓e_Traffic_takeTurn_9, ↓e_Traffic_takeTurn_10, ↓e_Traffic_takeTurn_11, ↓e_Traffic_takeTurn_14, ↓e_Traffic_takeTurn_15, ↓e_Traffic_takeTurn_18, ↓e_Traffic_takeTurn_19, ↓e_Traffic_takeTurn_20, ↓e_Traffic_takeTurn_23, ↓e_Traffic_takeTurn_24, ↓e_Traffic_takeTurn_25, ↓e_Traffic_takeTurn_28, ↓e_Traffic_takeTurn_31, ↓e_Traffic_takeTurn_32, ↓e_Traffic_takeTurn_33, ↓e_Traffic_takeTurn_36, ↓e_Traffic_takeTurn_37, ↓e_Traffic_takeTurn_38, ↓e_Traffic_takeTurn_41, ↓e_Traffic_takeTurn_42, ↓e_Traffic_takeTurn_43, ↓e_Traffic_takeTurn_46, ↓e_Traffic_takeTurn_47, ↓e_Traffic_takeTurn_48, ↓e_Traffic_takeTurn_51, ↓e_Traffic_takeTurn_54, ↓e_Traffic_takeTurn_56, ↓e_Traffic_takeTurn_58, ↓e_Traffic_takeTurn_59, ↓e_Traffic_takeTurn_62, ↓e_Traffic_takeTurn_63, ↓e_Traffic_takeTurn_64, ↓e_Traffic_takeTurn_67, ↓e_Traffic_takeTurn_70, ↓e_Traffic_takeTurn_71, ↓e_Traffic_takeTurn_72, ↓e_Traffic_takeTurn_75, ↓e_Traffic_takeTurn_77, ↓e_Traffic_takeTurn_80, not_true_eq_false, not_false_eq_true, one0, true_or, or_true, eq_self, bI_z, bI_nz, bI_o, b_ft, bI_1, bI_0, ↓kC_l, ↓kC_r, Option.toList_some, Option.toList_none, List.cons_append, List.nil_append, s1_0, s1_1i, s1_1r, s1_1w, s1_1n, s1_s, s2_0, s2_1i, s2_1r, s2_1w, s2_1n, s2_s, gI_sI, gI_sR, gI_sL, gI_sD, gR_sI, gR_sR, gR_sL, gR_sD, gL_sI, gL_sR, gL_sL, gL_sD, gD_sI, gD_sR, gD_sL, gD_sD, isK_sI, isK_sR, isK_sL, isK_sD, inL_sI, inL_sR, inL_sL, inL_sD, nx_sI, nx_sR, nx_sL, nx_sD, kd_sI, kd_sR, kd_sL, kd_sD, ln_sI, ln_sR, ln_sL, ln_sD, ↓reduceIte, c8_n, c8_1, c8_2, c8_3, c8_4, Nat.reduceAdd, k_s S, k_land S, k_nodes S, k_hear S, k_routes S, k_traffic S, k_market S, g_cnt S, r_land S, r_routes S, r_traffic S, r_market S, r_nodes S, r_hear S, r_rland S, r_tland S, r_troutes S, l_nodes S hi8, l_hear S hi8, r_node S hi8, r_queue S hi8, r_set S hi8, r_frames S hi8, r_bits S hi8, k_node S hi8, k_queue S hi8, k_frames S hi8, k_set S hi8, k_bits S hi8, ii_nat (lt31 hi8), hne, hF, b5, q_begin _ S hi8, e11]
        · have V4 := (((V.set (f := 11) hn hi (by omega) (α.1 i 11 + 1) (fun w => by omega)).set (f := 7) hn hi (by omega) (α.2.2.1 i 0 2) (fun w => by omega)).set (f := 8) hn hi (by omega) v (fun w => by omega)).set (f := 9) hn hi (by omega) 1 (fun _ => Or.inr rfl)
          have e : asV (asV (asV (asV α i 11 (α.1 i 11 + 1)) i 7 (α.2.2.1 i 0 2)) i 8 v) i 9 1 = beg9 α i v := by
            refine Prod.ext (funext fun a => funext fun k => ?_) rfl
            show (if a = i ∧ k = 9 then 1 else if a = i ∧ k = 8 then v else if a = i ∧ k = 7 then α.2.2.1 i 0 2 else if a = i ∧ k = 11 then α.1 i 11 + 1 else α.1 a k) = (if a = i ∧ k = 11 then α.1 i 11 + 1 else if a = i ∧ k = 9 then 1 else if a = i ∧ k = 7 then α.2.2.1 i 0 2 else if a = i ∧ k = 8 then v else α.1 a k)
            by_cases x0 : a = i
            · by_cases y1 : k = 11
              · simp [x0, y1]
              · by_cases y2 : k = 7
                · simp [x0, y2]
                · simp [x0, y1, y2]
            · simp [x0]
          rw [← e]
          exact V4
    · rw [if_neg hw]
      refine ⟨sI h (5 + 9 * i) 5 (α.1 i 5 - 1), fun Q => ?_, V.set hn hi (by omega) _ (fun w => by omega)⟩
      simp only [↓e_Traffic_takeTurn_0, ↓e_Traffic_takeTurn_1, ↓e_Traffic_takeTurn_4, ↓e_Traffic_takeTurn_7, ↓e_Traffic_takeTurn_8, ↓e_Traffic_takeTurn_9, ↓e_Traffic_takeTurn_10, ↓e_Traffic_takeTurn_11, ↓e_Traffic_takeTurn_14, ↓e_Traffic_takeTurn_15, ↓e_Traffic_takeTurn_18, ↓e_Traffic_takeTurn_19, ↓e_Traffic_takeTurn_20, ↓e_Traffic_takeTurn_23, ↓e_Traffic_takeTurn_24, ↓e_Traffic_takeTurn_25, ↓e_Traffic_takeTurn_28, ↓e_Traffic_takeTurn_31, ↓e_Traffic_takeTurn_32, ↓e_Traffic_takeTurn_33, ↓e_Traffic_takeTurn_36, ↓e_Traffic_takeTurn_37, ↓e_Traffic_takeTurn_38, ↓e_Traffic_takeTurn_41, ↓e_Traffic_takeTurn_42, ↓e_Traffic_takeTurn_43, ↓e_Traffic_takeTurn_46, ↓e_Traffic_takeTurn_47, ↓e_Traffic_takeTurn_48, ↓e_Traffic_takeTurn_51, ↓e_Traffic_takeTurn_56, ↓e_Traffic_takeTurn_58, ↓e_Traffic_takeTurn_59, ↓e_Traffic_takeTurn_62, ↓e_Traffic_takeTurn_63, ↓e_Traffic_takeTurn_64, ↓e_Traffic_takeTurn_67, ↓e_Traffic_takeTurn_70, ↓e_Traffic_takeTurn_71, ↓e_Traffic_takeTurn_72, ↓e_Traffic_takeTurn_75, ↓e_Traffic_takeTurn_77, ↓e_Traffic_takeTurn_80, not_true_eq_false, not_false_eq_true, one0, true_or, or_true, eq_self, bI_z, bI_nz, bI_o, b_ft, bI_1, bI_0, ↓kC_l, ↓kC_r, Option.toList_some, Option.toList_none, List.cons_append, List.nil_append, s1_0, s1_1i, s1_1r, s1_1w, s1_1n, s1_s, s2_0, s2_1i, s2_1r, s2_1w, s2_1n, s2_s, gI_sI, gI_sR, gI_sL, gI_sD, gR_sI, gR_sR, gR_sL, gR_sD, gL_sI, gL_sR, gL_sL, gL_sD, gD_sI, gD_sR, gD_sL, gD_sD, isK_sI, isK_sR, isK_sL, isK_sD, inL_sI, inL_sR, inL_sL, inL_sD, nx_sI, nx_sR, nx_sL, nx_sD, kd_sI, kd_sR, kd_sL, kd_sD, ln_sI, ln_sR, ln_sL, ln_sD, ↓reduceIte, c8_n, c8_1, c8_2, c8_3, c8_4, Nat.reduceAdd, k_s S, k_land S, k_nodes S, k_hear S, k_routes S, k_traffic S, k_market S, g_cnt S, r_land S, r_routes S, r_traffic S, r_market S, r_nodes S, r_hear S, r_rland S, r_tland S, r_troutes S, l_nodes S hi8, l_hear S hi8, r_node S hi8, r_queue S hi8, r_set S hi8, r_frames S hi8, r_bits S hi8, k_node S hi8, k_queue S hi8, k_frames S hi8, k_set S hi8, k_bits S hi8, ii_nat (lt31 hi8), q_at0 _ S hi8 hq hq4, h0', f2, Option.isNone_some, Bool.false_eq_true, e5, hw]
theorem ca_gt (V : CA n h α) (hn : n ≤ 8) {x j : Nat} (hx : x < n) (hj : j < n) {s : Int32} {S : Nat → Bool} (hs : ∀ k, k < n → tb s k = S k) : gtF n h x j s = gt9 α n S x j := by
  unfold gtF gt9
  rw [hs x hx, ca_ch V hn hx hj, exUp_congr n 0 fun k _ hk => ?_]
  unfold gtB gb9
  rw [hs k (by omega), ca_ch V hn hx (by omega), ca_fX V (by omega) hx, ca_fX V hj hx]
  simp only [Bool.and_assoc]
theorem ca_go (A : AI n h) (V : CA n h α) {i x tc : Nat} (hi : i < n) (hx : x < n) (h8 : α.1 i 8 = ii x) (h7 : α.1 i 7 = ii tc) (h71 : 1 ≤ tc) (htl : tc ≤ 3) {s : Int32} {T : Nat → Bool} (hs : ∀ k, k < n → tb s k = T k) : ∃ h', (∀ Q, WP Gm j_Traffic_goOn 0 [some (.inr (.inl (some 114))), some (.inl (ii i)), some (.inl s), none] [] h Q = Q (.inl none) h') ∧ AI n h' ∧ CA n h' (goa9 n T α i) := by
  have S := A.1
  have hn := n8 S
  have hi8 : i < 8 := by omega
  have hx8 : x < 8 := by omega
  have e7 : gI h (5 + 9 * i) 7 = ii tc := (V.1 i hi 7 (by omega) (by omega)).trans h7
  suffices hh : ∃ h', (∀ Q, WP Gm j_Traffic_goOn 0 [some (.inr (.inl (some 114))), some (.inl (ii i)), some (.inl s), none] [] h Q = Q (.inl none) h') ∧ CA n h' (goa9 n T α i) by
    obtain ⟨g, g1, g2, -⟩ := q_goOn A hi e7 h71 htl s
    obtain ⟨u, u1, u2⟩ := hh
    obtain ⟨-, rfl⟩ := det g1 u1
    exact ⟨g, g1, g2, u2⟩
  have e10 : gI h (5 + 9 * i) 10 = α.1 i 10 := V.1 i hi 10 (by omega) (by omega)
  have V2 := (V.set (f := 10) hn hi (by omega) (α.1 i 10 + 1) (fun w => by omega)).set (f := 7) hn hi (by omega) (ii (tc - 1)) (fun w => by omega)
  generalize hg : sI (sI h (5 + 9 * i) 10 (α.1 i 10 + 1)) (5 + 9 * i) 7 (ii (tc - 1)) = g at V2
  have Sg : Str n g := by rw [← hg]; exact (S.sI _ (by omega)).sI _ (by omega)
  have pre : ∀ Q, WP Gm j_Traffic_goOn 0 [some (.inr (.inl (some 114))), some (.inl (ii i)), some (.inl s), none] [] h Q = WP Gm j_Traffic_goOn 30 [some (.inr (.inl (some 114))), some (.inl (ii i)), some (.inl s), some (.inr (.inl (some (5 + 9 * i))))] [] g Q := by
    intro Q
    simp only [↓e_Traffic_goOn_0, ↓e_Traffic_goOn_1, ↓e_Traffic_goOn_4, ↓e_Traffic_goOn_7, ↓e_Traffic_goOn_8, ↓e_Traffic_goOn_9, ↓e_Traffic_goOn_10, ↓e_Traffic_goOn_11, ↓e_Traffic_goOn_12, ↓e_Traffic_goOn_15, ↓e_Traffic_goOn_16, ↓e_Traffic_goOn_17, ↓e_Traffic_goOn_20, ↓e_Traffic_goOn_21, ↓e_Traffic_goOn_22, ↓e_Traffic_goOn_25, ↓e_Traffic_goOn_26, ↓e_Traffic_goOn_27, ↓e_Traffic_goOn_31, ↓e_Traffic_goOn_34, ↓e_Traffic_goOn_35, ↓e_Traffic_goOn_38, ↓e_Traffic_goOn_41, ↓e_Traffic_goOn_44, ↓e_Traffic_goOn_45, ↓e_Traffic_goOn_48, ↓e_Traffic_goOn_49, ↓e_Traffic_goOn_52, ↓e_Traffic_goOn_53, ↓e_Traffic_goOn_54, ↓e_Traffic_goOn_57, ↓e_Traffic_goOn_60, ↓e_Traffic_goOn_61, ↓e_Traffic_goOn_62, ↓e_Traffic_goOn_65, not_true_eq_false, not_false_eq_true, one0, true_or, or_true, eq_self, bI_z, bI_nz, bI_o, b_ft, bI_1, bI_0, ↓kC_l, ↓kC_r, Option.toList_some, Option.toList_none, List.cons_append, List.nil_append, s1_0, s1_1i, s1_1r, s1_1w, s1_1n, s1_s, s2_0, s2_1i, s2_1r, s2_1w, s2_1n, s2_s, gI_sI, gI_sR, gI_sL, gI_sD, gR_sI, gR_sR, gR_sL, gR_sD, gL_sI, gL_sR, gL_sL, gL_sD, gD_sI, gD_sR, gD_sL, gD_sD, isK_sI, isK_sR, isK_sL, isK_sD, inL_sI, inL_sR, inL_sL, inL_sD, nx_sI, nx_sR, nx_sL, nx_sD, kd_sI, kd_sR, kd_sL, kd_sD, ln_sI, ln_sR, ln_sL, ln_sD, ↓reduceIte, c8_n, c8_1, c8_2, c8_3, c8_4, Nat.reduceAdd, k_s S, k_land S, k_nodes S, k_hear S, k_routes S, k_traffic S, k_market S, g_cnt S, r_land S, r_routes S, r_traffic S, r_market S, r_nodes S, r_hear S, r_rland S, r_tland S, r_troutes S, l_nodes S hi8, l_hear S hi8, r_node S hi8, r_queue S hi8, r_set S hi8, r_frames S hi8, r_bits S hi8, k_node S hi8, k_queue S hi8, k_frames S hi8, k_set S hi8, k_bits S hi8, ii_nat (lt31 hi8), (show ¬ (7 : Nat) = 10 by decide), and_false, e7, e10, ii_pred h71, hg]
  have g8 : gI g (5 + 9 * i) 8 = ii x := by
    rw [V2.1 i hi 8 (by omega) (by omega), asV_n _ _ (by omega), asV_n _ _ (by omega)]
    exact h8
  have eg : gtF n g x i s = gt9 α n T x i := (ca_gt V2 hn hx hi hs).trans (gt_congr hx hi fun a k _ hk => (asV_n _ _ (by omega)).trans (asV_n _ _ (by omega)))
  have b9 := (V.2.2.2.2.2.2.2.2 i hi).1
  have eα : ∀ v, α.1 i 9 &&& bI (gt9 α n T x i) = v → asV (asV (asV α i 10 (α.1 i 10 + 1)) i 7 (ii (tc - 1))) i 9 v = goa9 n T α i := fun v hv => by
    unfold goa9 de9
    rw [h8, tn_ii (show x < 2147483648 by omega), hv]
    refine Prod.ext (funext fun a => funext fun k => ?_) rfl
    have e77 : (asV (asV α i 10 (α.1 i 10 + 1)) i 9 v).1 i 7 - 1 = ii (tc - 1) := by
      rw [asV_n _ _ (by omega), asV_n _ _ (by omega), h7, ii_pred h71]
    rw [e77]
    show (if a = i ∧ k = 9 then v else if a = i ∧ k = 7 then ii (tc - 1) else if a = i ∧ k = 10 then α.1 i 10 + 1 else α.1 a k) = (if a = i ∧ k = 7 then ii (tc - 1) else if a = i ∧ k = 9 then v else if a = i ∧ k = 10 then α.1 i 10 + 1 else α.1 a k)
    by_cases x0 : a = i
    · by_cases y1 : k = 7
      · simp [x0, y1]
      · simp [x0, y1]
    · simp [x0]
  cases hgt : gt9 α n T x i with
  | true =>
    rw [hgt] at eg
    refine ⟨g, fun Q => ?_, ?_⟩
    · rw [pre]
      simp only [↓e_Traffic_goOn_0, ↓e_Traffic_goOn_1, ↓e_Traffic_goOn_4, ↓e_Traffic_goOn_7, ↓e_Traffic_goOn_8, ↓e_Traffic_goOn_9, ↓e_Traffic_goOn_10, ↓e_Traffic_goOn_11, ↓e_Traffic_goOn_12, ↓e_Traffic_goOn_15, ↓e_Traffic_goOn_16, ↓e_Traffic_goOn_17, ↓e_Traffic_goOn_20, ↓e_Traffic_goOn_21, ↓e_Traffic_goOn_22, ↓e_Traffic_goOn_25, ↓e_Traffic_goOn_26, ↓e_Traffic_goOn_27, ↓e_Traffic_goOn_30, ↓e_Traffic_goOn_31, ↓e_Traffic_goOn_34, ↓e_Traffic_goOn_35, ↓e_Traffic_goOn_38, ↓e_Traffic_goOn_41, ↓e_Traffic_goOn_44, ↓e_Traffic_goOn_45, ↓e_Traffic_goOn_48, ↓e_Traffic_goOn_49, ↓e_Traffic_goOn_52, ↓e_Traffic_goOn_53, ↓e_Traffic_goOn_54, ↓e_Traffic_goOn_57, ↓e_Traffic_goOn_60, ↓e_Traffic_goOn_61, ↓e_Traffic_goOn_62, ↓e_Traffic_goOn_65, not_true_eq_false, not_false_eq_true, one0, true_or, or_true, eq_self, bI_z, bI_nz, bI_o, b_ft, bI_1, bI_0, ↓kC_l, ↓kC_r, Option.toList_some, Option.toList_none, List.cons_append, List.nil_append, s1_0, s1_1i, s1_1r, s1_1w, s1_1n, s1_s, s2_0, s2_1i, s2_1r, s2_1w, s2_1n, s2_s, gI_sI, gI_sR, gI_sL, gI_sD, gR_sI, gR_sR, gR_sL, gR_sD, gL_sI, gL_sR, gL_sL, gL_sD, gD_sI, gD_sR, gD_sL, gD_sD, isK_sI, isK_sR, isK_sL, isK_sD, inL_sI, inL_sR, inL_sL, inL_sD, nx_sI, nx_sR, nx_sL, nx_sD, kd_sI, kd_sR, kd_sL, kd_sD, ln_sI, ln_sR, ln_sL, ln_sD, ↓reduceIte, c8_n, c8_1, c8_2, c8_3, c8_4, Nat.reduceAdd, k_s Sg, k_land Sg, k_nodes Sg, k_hear Sg, k_routes Sg, k_traffic Sg, k_market Sg, g_cnt Sg, r_land Sg, r_routes Sg, r_traffic Sg, r_market Sg, r_nodes Sg, r_hear Sg, r_rland Sg, r_tland Sg, r_troutes Sg, l_nodes Sg hi8, l_hear Sg hi8, r_node Sg hi8, r_queue Sg hi8, r_set Sg hi8, r_frames Sg hi8, r_bits Sg hi8, k_node Sg hi8, k_queue Sg hi8, k_frames Sg hi8, k_set Sg hi8, k_bits Sg hi8, ii_nat (lt31 hi8), g8, q_isNode _ Sg, isNode_ii Sg hx8, hx, decide_true, Bool.true_eq_false, q_gets _ Sg hx8 hi8, eg]
    · have ev : α.1 i 9 &&& bI (gt9 α n T x i) = α.1 i 9 := by
        rw [hgt]
        rcases b9 with q | q <;> rw [q] <;> decide
      rw [← eα _ ev]
      have := asV_id (asV (asV α i 10 (α.1 i 10 + 1)) i 7 (ii (tc - 1))) i 9
      rw [asV_n _ _ (by omega), asV_n _ _ (by omega)] at this
      rw [this]
      exact V2
  | false =>
    rw [hgt] at eg
    refine ⟨sI g (5 + 9 * i) 9 0, fun Q => ?_, ?_⟩
    · rw [pre]
      simp only [↓e_Traffic_goOn_0, ↓e_Traffic_goOn_1, ↓e_Traffic_goOn_4, ↓e_Traffic_goOn_7, ↓e_Traffic_goOn_8, ↓e_Traffic_goOn_9, ↓e_Traffic_goOn_10, ↓e_Traffic_goOn_11, ↓e_Traffic_goOn_12, ↓e_Traffic_goOn_15, ↓e_Traffic_goOn_16, ↓e_Traffic_goOn_17, ↓e_Traffic_goOn_20, ↓e_Traffic_goOn_21, ↓e_Traffic_goOn_22, ↓e_Traffic_goOn_25, ↓e_Traffic_goOn_26, ↓e_Traffic_goOn_27, ↓e_Traffic_goOn_30, ↓e_Traffic_goOn_31, ↓e_Traffic_goOn_34, ↓e_Traffic_goOn_35, ↓e_Traffic_goOn_38, ↓e_Traffic_goOn_41, ↓e_Traffic_goOn_44, ↓e_Traffic_goOn_45, ↓e_Traffic_goOn_48, ↓e_Traffic_goOn_49, ↓e_Traffic_goOn_52, ↓e_Traffic_goOn_53, ↓e_Traffic_goOn_54, ↓e_Traffic_goOn_57, ↓e_Traffic_goOn_60, ↓e_Traffic_goOn_61, ↓e_Traffic_goOn_62, ↓e_Traffic_goOn_65, not_true_eq_false, not_false_eq_true, one0, true_or, or_true, eq_self, bI_z, bI_nz, bI_o, b_ft, bI_1, bI_0, ↓kC_l, ↓kC_r, Option.toList_some, Option.toList_none, List.cons_append, List.nil_append, s1_0, s1_1i, s1_1r, s1_1w, s1_1n, s1_s, s2_0, s2_1i, s2_1r, s2_1w, s2_1n, s2_s, gI_sI, gI_sR, gI_sL, gI_sD, gR_sI, gR_sR, gR_sL, gR_sD, gL_sI, gL_sR, gL_sL, gL_sD, gD_sI, gD_sR, gD_sL, gD_sD, isK_sI, isK_sR, isK_sL, isK_sD, inL_sI, inL_sR, inL_sL, inL_sD, nx_sI, nx_sR, nx_sL, nx_sD, kd_sI, kd_sR, kd_sL, kd_sD, ln_sI, ln_sR, ln_sL, ln_sD, ↓reduceIte, c8_n, c8_1, c8_2, c8_3, c8_4, Nat.reduceAdd, k_s Sg, k_land Sg, k_nodes Sg, k_hear Sg, k_routes Sg, k_traffic Sg, k_market Sg, g_cnt Sg, r_land Sg, r_routes Sg, r_traffic Sg, r_market Sg, r_nodes Sg, r_hear Sg, r_rland Sg, r_tland Sg, r_troutes Sg, l_nodes Sg hi8, l_hear Sg hi8, r_node Sg hi8, r_queue Sg hi8, r_set Sg hi8, r_frames Sg hi8, r_bits Sg hi8, k_node Sg hi8, k_queue Sg hi8, k_frames Sg hi8, k_set Sg hi8, k_bits Sg hi8, ii_nat (lt31 hi8), g8, q_isNode _ Sg, isNode_ii Sg hx8, hx, decide_true, Bool.true_eq_false, q_gets _ Sg hx8 hi8, eg, Bool.false_eq_true]
    · have ev : α.1 i 9 &&& bI (gt9 α n T x i) = 0 := by
        rw [hgt]
        rcases b9 with q | q <;> rw [q] <;> decide
      rw [← eα _ ev]
      exact V2.set hn hi (by omega) 0 (fun _ => Or.inl rfl)
theorem ca_endA (A : AI n h) (V : CA n h α) {i x : Nat} (hi : i < n) (hx : x < n) (h8 : α.1 i 8 = ii x) (hq0 : ¬ α.2.1 i = 0) (h7 : gI h (5 + 9 * i) 7 = 0) : ∃ h', (∀ Q, WP Gm j_Traffic_end 0 [some (.inr (.inl (some 114))), some (.inl (ii i)), none, none, none] [] h Q = Q (.inl none) h') ∧ AI n h' ∧ CA n h' (end9 α i) := by
  obtain ⟨t, t1, t2⟩ := ai_6 A V hi
  obtain ⟨u, u1, -, u2⟩ := ca_end V A.1 hi hx h8 t1 t2 hq0 ((ai_vq A V i hi).2 0 (by omega))
  obtain ⟨g, g1, g2, -⟩ := q_end A hi h7
  obtain ⟨-, rfl⟩ := det g1 u1
  exact ⟨g, g1, g2, u2⟩
theorem ca_goBy (A : AI n h) (V : CA n h α) (W : VS9 n α) : ∃ h', (∀ Q, WP Gm j_Traffic_goBy 0 [some (.inr (.inl (some 114))), none, none, none] [] h Q = Q (.inl none) h') ∧ AI n h' ∧ CA n h' (slot9 n α) := by
  have hn := n8 A.1
  have e2 : gI h 114 2 = α.1 50 2 := V.2.2.2.2.1.1 2 (by omega) (by omega)
  rw [slot_c]
  dsimp only
  have V1 := V.air (k := 2) hn (by omega) (α.1 50 2 + 1)
  have W1 : VS9 n (asV α 50 2 (α.1 50 2 + 1)) := fun i hi w => by
    rw [asV_n _ _ (by omega)] at w ⊢
    exact W i hi w
  generalize hα1 : asV α 50 2 (α.1 50 2 + 1) = α1 at *
  generalize hh1 : sI h 114 2 (α.1 50 2 + 1) = h1 at *
  have A1 : AI n h1 := A.far (WI := fun a k => a = 114 ∧ k = 2) (by rw [← hh1]; exact (Fr.refl h).sI _ ⟨rfl, rfl⟩) (fun a k w => by omega)
  generalize hsnd : upto (fun k s => if decide (0 < gI h1 (5 + 9 * k) 7) = true then s ||| bitN k else s) n 0 0 = s0
  have hs0 : ∀ x, x < n → tb s0 x = snd9 α1 x := fun x hx => by
    rw [← hsnd, snd_tb A1.1 hx, V1.1 x hx 7 (by omega) (by omega)]
    rfl
  generalize hS1 : snd9 α1 = S1 at *
  obtain ⟨g1, c1, A2, V2, W2⟩ := loopR (fun Q k (g : Hp) => WP Gm j_Traffic_goBy 17 [some (.inr (.inl (some 114))), some (.inl s0), some (.inl (ii k)), none] [] g Q)
    (fun k g => AI n g ∧ CA n g (tk9 S1 (bsy9 α1 n) k α1) ∧ VS9 n (tk9 S1 (bsy9 α1 n) k α1)) n
    (fun k g hk hI => by
      obtain ⟨Ag, Vg, Wg⟩ := id hI
      have Sg := Ag.1
      have hk8 := lt_8 (n8 Sg) hk
      rw [tk_s]
      have eb : hoF n g k s0 = bsy9 α1 n k := by
        unfold hoF bsy9
        refine exUp_congr n 0 fun j _ hj => ?_
        rw [hs0 j (by omega), ca_ch Vg hn hk (by omega), Bool.and_comm, ← hS1]
        have : hr9 (tk9 (snd9 α1) (bsy9 α1 n) k α1) k j = hr9 α1 k j := hr_congr fun a f ha hf => tk_V _ _ _ (by omega) k (by omega)
        rw [this]
      cases hb : S1 k with
      | true =>
        rw [Bool.true_or, if_pos rfl]
        refine ⟨g, fun Q => ?_, hI⟩
        rw [e_Traffic_goBy_17]
        simp only [↓e_Traffic_goBy_0, ↓e_Traffic_goBy_1, ↓e_Traffic_goBy_2, ↓e_Traffic_goBy_5, ↓e_Traffic_goBy_6, ↓e_Traffic_goBy_7, ↓e_Traffic_goBy_10, ↓e_Traffic_goBy_11, ↓e_Traffic_goBy_14, ↓e_Traffic_goBy_15, ↓e_Traffic_goBy_16, ↓e_Traffic_goBy_18, ↓e_Traffic_goBy_19, ↓e_Traffic_goBy_22, ↓e_Traffic_goBy_25, ↓e_Traffic_goBy_28, ↓e_Traffic_goBy_29, ↓e_Traffic_goBy_30, ↓e_Traffic_goBy_33, ↓e_Traffic_goBy_36, ↓e_Traffic_goBy_37, ↓e_Traffic_goBy_40, ↓e_Traffic_goBy_41, ↓e_Traffic_goBy_42, ↓e_Traffic_goBy_45, ↓e_Traffic_goBy_48, ↓e_Traffic_goBy_49, ↓e_Traffic_goBy_50, ↓e_Traffic_goBy_53, ↓e_Traffic_goBy_56, ↓e_Traffic_goBy_59, ↓e_Traffic_goBy_60, ↓e_Traffic_goBy_63, ↓e_Traffic_goBy_64, ↓e_Traffic_goBy_65, ↓e_Traffic_goBy_66, ↓e_Traffic_goBy_67, ↓e_Traffic_goBy_68, ↓e_Traffic_goBy_71, ↓e_Traffic_goBy_74, ↓e_Traffic_goBy_77, ↓e_Traffic_goBy_78, ↓e_Traffic_goBy_79, ↓e_Traffic_goBy_82, ↓e_Traffic_goBy_85, ↓e_Traffic_goBy_86, ↓e_Traffic_goBy_87, ↓e_Traffic_goBy_88, ↓e_Traffic_goBy_91, ↓e_Traffic_goBy_94, ↓e_Traffic_goBy_97, ↓e_Traffic_goBy_98, ↓e_Traffic_goBy_99, ↓e_Traffic_goBy_100, ↓e_Traffic_goBy_101, ↓e_Traffic_goBy_104, ↓e_Traffic_goBy_107, ↓e_Traffic_goBy_110, ↓e_Traffic_goBy_111, ↓e_Traffic_goBy_112, ↓e_Traffic_goBy_115, ↓e_Traffic_goBy_118, ↓e_Traffic_goBy_119, ↓e_Traffic_goBy_122, ↓e_Traffic_goBy_125, ↓e_Traffic_goBy_126, ↓e_Traffic_goBy_127, ↓e_Traffic_goBy_130, ↓e_Traffic_goBy_133, ↓e_Traffic_goBy_134, ↓e_Traffic_goBy_135, ↓e_Traffic_goBy_138, ↓e_Traffic_goBy_141, ↓e_Traffic_goBy_144, not_true_eq_false, not_false_eq_true, one0, true_or, or_true, eq_self, bI_z, bI_nz, bI_o, b_ft, bI_1, bI_0, ↓kC_l, ↓kC_r, Option.toList_some, Option.toList_none, List.cons_append, List.nil_append, s1_0, s1_1i, s1_1r, s1_1w, s1_1n, s1_s, s2_0, s2_1i, s2_1r, s2_1w, s2_1n, s2_s, gI_sI, gI_sR, gI_sL, gI_sD, gR_sI, gR_sR, gR_sL, gR_sD, gL_sI, gL_sR, gL_sL, gL_sD, gD_sI, gD_sR, gD_sL, gD_sD, isK_sI, isK_sR, isK_sL, isK_sD, inL_sI, inL_sR, inL_sL, inL_sD, nx_sI, nx_sR, nx_sL, nx_sD, kd_sI, kd_sR, kd_sL, kd_sD, ln_sI, ln_sR, ln_sL, ln_sD, ↓reduceIte, c8_n, c8_1, c8_2, c8_3, c8_4, Nat.reduceAdd, k_s Sg, k_land Sg, k_nodes Sg, k_hear Sg, k_routes Sg, k_traffic Sg, k_market Sg, g_cnt Sg, r_land Sg, r_routes Sg, r_traffic Sg, r_market Sg, r_nodes Sg, r_hear Sg, r_rland Sg, r_tland Sg, r_troutes Sg, le_f (n8 Sg) hk, q_isIn, hs0 k hk, hb, ii_succ]
      | false =>
        cases hho : bsy9 α1 n k with
        | true =>
          rw [hho] at eb
          rw [Bool.true_or, Bool.or_true, if_pos rfl]
          refine ⟨g, fun Q => ?_, hI⟩
          rw [e_Traffic_goBy_17]
          simp only [↓e_Traffic_goBy_0, ↓e_Traffic_goBy_1, ↓e_Traffic_goBy_2, ↓e_Traffic_goBy_5, ↓e_Traffic_goBy_6, ↓e_Traffic_goBy_7, ↓e_Traffic_goBy_10, ↓e_Traffic_goBy_11, ↓e_Traffic_goBy_14, ↓e_Traffic_goBy_15, ↓e_Traffic_goBy_16, ↓e_Traffic_goBy_18, ↓e_Traffic_goBy_19, ↓e_Traffic_goBy_22, ↓e_Traffic_goBy_25, ↓e_Traffic_goBy_28, ↓e_Traffic_goBy_29, ↓e_Traffic_goBy_30, ↓e_Traffic_goBy_33, ↓e_Traffic_goBy_36, ↓e_Traffic_goBy_37, ↓e_Traffic_goBy_40, ↓e_Traffic_goBy_41, ↓e_Traffic_goBy_42, ↓e_Traffic_goBy_45, ↓e_Traffic_goBy_48, ↓e_Traffic_goBy_49, ↓e_Traffic_goBy_50, ↓e_Traffic_goBy_53, ↓e_Traffic_goBy_56, ↓e_Traffic_goBy_59, ↓e_Traffic_goBy_60, ↓e_Traffic_goBy_63, ↓e_Traffic_goBy_64, ↓e_Traffic_goBy_65, ↓e_Traffic_goBy_66, ↓e_Traffic_goBy_67, ↓e_Traffic_goBy_68, ↓e_Traffic_goBy_71, ↓e_Traffic_goBy_74, ↓e_Traffic_goBy_77, ↓e_Traffic_goBy_78, ↓e_Traffic_goBy_79, ↓e_Traffic_goBy_82, ↓e_Traffic_goBy_85, ↓e_Traffic_goBy_86, ↓e_Traffic_goBy_87, ↓e_Traffic_goBy_88, ↓e_Traffic_goBy_91, ↓e_Traffic_goBy_94, ↓e_Traffic_goBy_97, ↓e_Traffic_goBy_98, ↓e_Traffic_goBy_99, ↓e_Traffic_goBy_100, ↓e_Traffic_goBy_101, ↓e_Traffic_goBy_104, ↓e_Traffic_goBy_107, ↓e_Traffic_goBy_110, ↓e_Traffic_goBy_111, ↓e_Traffic_goBy_112, ↓e_Traffic_goBy_115, ↓e_Traffic_goBy_118, ↓e_Traffic_goBy_119, ↓e_Traffic_goBy_122, ↓e_Traffic_goBy_125, ↓e_Traffic_goBy_126, ↓e_Traffic_goBy_127, ↓e_Traffic_goBy_130, ↓e_Traffic_goBy_133, ↓e_Traffic_goBy_134, ↓e_Traffic_goBy_135, ↓e_Traffic_goBy_138, ↓e_Traffic_goBy_141, ↓e_Traffic_goBy_144, not_true_eq_false, not_false_eq_true, one0, true_or, or_true, eq_self, bI_z, bI_nz, bI_o, b_ft, bI_1, bI_0, ↓kC_l, ↓kC_r, Option.toList_some, Option.toList_none, List.cons_append, List.nil_append, s1_0, s1_1i, s1_1r, s1_1w, s1_1n, s1_s, s2_0, s2_1i, s2_1r, s2_1w, s2_1n, s2_s, gI_sI, gI_sR, gI_sL, gI_sD, gR_sI, gR_sR, gR_sL, gR_sD, gL_sI, gL_sR, gL_sL, gL_sD, gD_sI, gD_sR, gD_sL, gD_sD, isK_sI, isK_sR, isK_sL, isK_sD, inL_sI, inL_sR, inL_sL, inL_sD, nx_sI, nx_sR, nx_sL, nx_sD, kd_sI, kd_sR, kd_sL, kd_sD, ln_sI, ln_sR, ln_sL, ln_sD, ↓reduceIte, c8_n, c8_1, c8_2, c8_3, c8_4, Nat.reduceAdd, k_s Sg, k_land Sg, k_nodes Sg, k_hear Sg, k_routes Sg, k_traffic Sg, k_market Sg, g_cnt Sg, r_land Sg, r_routes Sg, r_traffic Sg, r_market Sg, r_nodes Sg, r_hear Sg, r_rland Sg, r_tland Sg, r_troutes Sg, le_f (n8 Sg) hk, q_isIn, hs0 k hk, hb, ii_succ, Bool.false_eq_true, q_hearsOneOf _ Sg hk8, eb]
        | false =>
          rw [hho] at eb
          have e7 : (tk9 S1 (bsy9 α1 n) k α1).1 k 7 = α1.1 k 7 := tk_V _ _ _ (by omega) k (by omega)
          have h7 : gI g (5 + 9 * k) 7 = 0 := by
            obtain ⟨tc, t1, t2, t3, -, t5⟩ := ai_7 Ag Vg hk
            have hn7 : ¬ 0 < α1.1 k 7 := fun w => by
              rw [← hS1] at hb
              unfold snd9 at hb
              rw [decide_eq_true w] at hb
              cases hb
            have : tc = 0 := by
              rw [e7] at t5
              exact Nat.eq_zero_of_not_pos fun w => hn7 (t5.mpr w)
            rw [t3, this]
            rfl
          obtain ⟨g', r1, r2, r3⟩ := ca_turn Ag Vg hk h7
          have run : ∀ Q, WP Gm j_Traffic_goBy 17 [some (.inr (.inl (some 114))), some (.inl s0), some (.inl (ii k)), none] [] g Q = WP Gm j_Traffic_goBy 17 [some (.inr (.inl (some 114))), some (.inl s0), some (.inl (ii (k + 1))), none] [] g' Q := fun Q => by
            rw [e_Traffic_goBy_17]
            simp only [↓e_Traffic_goBy_0, ↓e_Traffic_goBy_1, ↓e_Traffic_goBy_2, ↓e_Traffic_goBy_5, ↓e_Traffic_goBy_6, ↓e_Traffic_goBy_7, ↓e_Traffic_goBy_10, ↓e_Traffic_goBy_11, ↓e_Traffic_goBy_14, ↓e_Traffic_goBy_15, ↓e_Traffic_goBy_16, ↓e_Traffic_goBy_18, ↓e_Traffic_goBy_19, ↓e_Traffic_goBy_22, ↓e_Traffic_goBy_25, ↓e_Traffic_goBy_28, ↓e_Traffic_goBy_29, ↓e_Traffic_goBy_30, ↓e_Traffic_goBy_33, ↓e_Traffic_goBy_36, ↓e_Traffic_goBy_37, ↓e_Traffic_goBy_40, ↓e_Traffic_goBy_41, ↓e_Traffic_goBy_42, ↓e_Traffic_goBy_45, ↓e_Traffic_goBy_48, ↓e_Traffic_goBy_49, ↓e_Traffic_goBy_50, ↓e_Traffic_goBy_53, ↓e_Traffic_goBy_56, ↓e_Traffic_goBy_59, ↓e_Traffic_goBy_60, ↓e_Traffic_goBy_63, ↓e_Traffic_goBy_64, ↓e_Traffic_goBy_65, ↓e_Traffic_goBy_66, ↓e_Traffic_goBy_67, ↓e_Traffic_goBy_68, ↓e_Traffic_goBy_71, ↓e_Traffic_goBy_74, ↓e_Traffic_goBy_77, ↓e_Traffic_goBy_78, ↓e_Traffic_goBy_79, ↓e_Traffic_goBy_82, ↓e_Traffic_goBy_85, ↓e_Traffic_goBy_86, ↓e_Traffic_goBy_87, ↓e_Traffic_goBy_88, ↓e_Traffic_goBy_91, ↓e_Traffic_goBy_94, ↓e_Traffic_goBy_97, ↓e_Traffic_goBy_98, ↓e_Traffic_goBy_99, ↓e_Traffic_goBy_100, ↓e_Traffic_goBy_101, ↓e_Traffic_goBy_104, ↓e_Traffic_goBy_107, ↓e_Traffic_goBy_110, ↓e_Traffic_goBy_111, ↓e_Traffic_goBy_112, ↓e_Traffic_goBy_115, ↓e_Traffic_goBy_118, ↓e_Traffic_goBy_119, ↓e_Traffic_goBy_122, ↓e_Traffic_goBy_125, ↓e_Traffic_goBy_126, ↓e_Traffic_goBy_127, ↓e_Traffic_goBy_130, ↓e_Traffic_goBy_133, ↓e_Traffic_goBy_134, ↓e_Traffic_goBy_135, ↓e_Traffic_goBy_138, ↓e_Traffic_goBy_141, ↓e_Traffic_goBy_144, not_true_eq_false, not_false_eq_true, one0, true_or, or_true, eq_self, bI_z, bI_nz, bI_o, b_ft, bI_1, bI_0, ↓kC_l, ↓kC_r, Option.toList_some, Option.toList_none, List.cons_append, List.nil_append, s1_0, s1_1i, s1_1r, s1_1w, s1_1n, s1_s, s2_0, s2_1i, s2_1r, s2_1w, s2_1n, s2_s, gI_sI, gI_sR, gI_sL, gI_sD, gR_sI, gR_sR, gR_sL, gR_sD, gL_sI, gL_sR, gL_sL, gL_sD, gD_sI, gD_sR, gD_sL, gD_sD, isK_sI, isK_sR, isK_sL, isK_sD, inL_sI, inL_sR, inL_sL, inL_sD, nx_sI, nx_sR, nx_sL, nx_sD, kd_sI, kd_sR, kd_sL, kd_sD, ln_sI, ln_sR, ln_sL, ln_sD, ↓reduceIte, c8_n, c8_1, c8_2, c8_3, c8_4, Nat.reduceAdd, k_s Sg, k_land Sg, k_nodes Sg, k_hear Sg, k_routes Sg, k_traffic Sg, k_market Sg, g_cnt Sg, r_land Sg, r_routes Sg, r_traffic Sg, r_market Sg, r_nodes Sg, r_hear Sg, r_rland Sg, r_tland Sg, r_troutes Sg, le_f (n8 Sg) hk, q_isIn, hs0 k hk, hb, ii_succ, Bool.false_eq_true, q_hearsOneOf _ Sg hk8, eb, r1]
          by_cases h0 : (tk9 S1 (bsy9 α1 n) k α1).2.1 k = 0
          · rw [if_pos h0] at r3
            rw [decide_eq_true h0, Bool.or_true, Bool.or_true, if_pos rfl]
            exact ⟨g', run, r2, r3, Wg⟩
          · rw [if_neg h0] at r3
            rw [decide_eq_false h0, if_neg (by decide)]
            exact ⟨g', run, r2, r3, VS_trn Ag Vg Wg hk h0⟩) n 0 h1 (by omega) ⟨A1, V1, W1⟩
  generalize hα2 : tk9 S1 (bsy9 α1 n) n α1 = α2 at *
  generalize hsnd2 : upto (fun k s => if decide (0 < gI g1 (5 + 9 * k) 7) = true then s ||| bitN k else s) n 0 0 = s2
  have hs2 : ∀ x, x < n → tb s2 x = snd9 α2 x := fun x hx => by
    rw [← hsnd2, snd_tb A2.1 hx, V2.1 x hx 7 (by omega) (by omega)]
    rfl
  have sd2 : ∀ x, snd9 α2 x = true → 0 < α2.1 x 7 := fun x w => of_decide_eq_true w
  generalize hS2 : snd9 α2 = S2 at *
  obtain ⟨g2, c2, A3, V3⟩ := loopR (fun Q k (g : Hp) => WP Gm j_Traffic_goBy 66 [some (.inr (.inl (some 114))), some (.inl s0), some (.inl s2), some (.inl (ii k))] [] g Q)
    (fun k g => AI n g ∧ CA n g (go9 n S2 k α2)) n
    (fun k g hk hI => by
      obtain ⟨Ag, Vg⟩ := id hI
      have Sg := Ag.1
      rw [go_s]
      cases hb : S2 k with
      | false =>
        rw [if_neg (by decide)]
        refine ⟨g, fun Q => ?_, hI⟩
        rw [e_Traffic_goBy_66]
        simp only [↓e_Traffic_goBy_0, ↓e_Traffic_goBy_1, ↓e_Traffic_goBy_2, ↓e_Traffic_goBy_5, ↓e_Traffic_goBy_6, ↓e_Traffic_goBy_7, ↓e_Traffic_goBy_10, ↓e_Traffic_goBy_11, ↓e_Traffic_goBy_14, ↓e_Traffic_goBy_15, ↓e_Traffic_goBy_16, ↓e_Traffic_goBy_17, ↓e_Traffic_goBy_18, ↓e_Traffic_goBy_19, ↓e_Traffic_goBy_22, ↓e_Traffic_goBy_25, ↓e_Traffic_goBy_28, ↓e_Traffic_goBy_29, ↓e_Traffic_goBy_30, ↓e_Traffic_goBy_33, ↓e_Traffic_goBy_36, ↓e_Traffic_goBy_37, ↓e_Traffic_goBy_40, ↓e_Traffic_goBy_41, ↓e_Traffic_goBy_42, ↓e_Traffic_goBy_45, ↓e_Traffic_goBy_48, ↓e_Traffic_goBy_49, ↓e_Traffic_goBy_50, ↓e_Traffic_goBy_53, ↓e_Traffic_goBy_56, ↓e_Traffic_goBy_59, ↓e_Traffic_goBy_60, ↓e_Traffic_goBy_63, ↓e_Traffic_goBy_64, ↓e_Traffic_goBy_65, ↓e_Traffic_goBy_67, ↓e_Traffic_goBy_68, ↓e_Traffic_goBy_71, ↓e_Traffic_goBy_74, ↓e_Traffic_goBy_77, ↓e_Traffic_goBy_78, ↓e_Traffic_goBy_79, ↓e_Traffic_goBy_82, ↓e_Traffic_goBy_85, ↓e_Traffic_goBy_86, ↓e_Traffic_goBy_87, ↓e_Traffic_goBy_88, ↓e_Traffic_goBy_91, ↓e_Traffic_goBy_94, ↓e_Traffic_goBy_97, ↓e_Traffic_goBy_98, ↓e_Traffic_goBy_99, ↓e_Traffic_goBy_100, ↓e_Traffic_goBy_101, ↓e_Traffic_goBy_104, ↓e_Traffic_goBy_107, ↓e_Traffic_goBy_110, ↓e_Traffic_goBy_111, ↓e_Traffic_goBy_112, ↓e_Traffic_goBy_115, ↓e_Traffic_goBy_118, ↓e_Traffic_goBy_119, ↓e_Traffic_goBy_122, ↓e_Traffic_goBy_125, ↓e_Traffic_goBy_126, ↓e_Traffic_goBy_127, ↓e_Traffic_goBy_130, ↓e_Traffic_goBy_133, ↓e_Traffic_goBy_134, ↓e_Traffic_goBy_135, ↓e_Traffic_goBy_138, ↓e_Traffic_goBy_141, ↓e_Traffic_goBy_144, not_true_eq_false, not_false_eq_true, one0, true_or, or_true, eq_self, bI_z, bI_nz, bI_o, b_ft, bI_1, bI_0, ↓kC_l, ↓kC_r, Option.toList_some, Option.toList_none, List.cons_append, List.nil_append, s1_0, s1_1i, s1_1r, s1_1w, s1_1n, s1_s, s2_0, s2_1i, s2_1r, s2_1w, s2_1n, s2_s, gI_sI, gI_sR, gI_sL, gI_sD, gR_sI, gR_sR, gR_sL, gR_sD, gL_sI, gL_sR, gL_sL, gL_sD, gD_sI, gD_sR, gD_sL, gD_sD, isK_sI, isK_sR, isK_sL, isK_sD, inL_sI, inL_sR, inL_sL, inL_sD, nx_sI, nx_sR, nx_sL, nx_sD, kd_sI, kd_sR, kd_sL, kd_sD, ln_sI, ln_sR, ln_sL, ln_sD, ↓reduceIte, c8_n, c8_1, c8_2, c8_3, c8_4, Nat.reduceAdd, k_s Sg, k_land Sg, k_nodes Sg, k_hear Sg, k_routes Sg, k_traffic Sg, k_market Sg, g_cnt Sg, r_land Sg, r_routes Sg, r_traffic Sg, r_market Sg, r_nodes Sg, r_hear Sg, r_rland Sg, r_tland Sg, r_troutes Sg, le_f (n8 Sg) hk, q_isIn, hs2 k hk, hb, ii_succ]
      | true =>
        rw [if_pos rfl]
        have w := sd2 k hb
        obtain ⟨x, x1, x2⟩ := W2 k hk w
        obtain ⟨tc, t1, t2, t3, -, t5⟩ := ai_7 Ag Vg hk
        rw [go_7 n S2 α2 k k (Nat.le_refl k)] at t5
        obtain ⟨g', r1, r2, r3⟩ := ca_go Ag Vg hk x1 ((go_8 n S2 α2 k k).trans x2) t2 (t5.mp w) t1 hs2
        refine ⟨g', fun Q => ?_, r2, r3⟩
        rw [e_Traffic_goBy_66]
        simp only [↓e_Traffic_goBy_0, ↓e_Traffic_goBy_1, ↓e_Traffic_goBy_2, ↓e_Traffic_goBy_5, ↓e_Traffic_goBy_6, ↓e_Traffic_goBy_7, ↓e_Traffic_goBy_10, ↓e_Traffic_goBy_11, ↓e_Traffic_goBy_14, ↓e_Traffic_goBy_15, ↓e_Traffic_goBy_16, ↓e_Traffic_goBy_17, ↓e_Traffic_goBy_18, ↓e_Traffic_goBy_19, ↓e_Traffic_goBy_22, ↓e_Traffic_goBy_25, ↓e_Traffic_goBy_28, ↓e_Traffic_goBy_29, ↓e_Traffic_goBy_30, ↓e_Traffic_goBy_33, ↓e_Traffic_goBy_36, ↓e_Traffic_goBy_37, ↓e_Traffic_goBy_40, ↓e_Traffic_goBy_41, ↓e_Traffic_goBy_42, ↓e_Traffic_goBy_45, ↓e_Traffic_goBy_48, ↓e_Traffic_goBy_49, ↓e_Traffic_goBy_50, ↓e_Traffic_goBy_53, ↓e_Traffic_goBy_56, ↓e_Traffic_goBy_59, ↓e_Traffic_goBy_60, ↓e_Traffic_goBy_63, ↓e_Traffic_goBy_64, ↓e_Traffic_goBy_65, ↓e_Traffic_goBy_67, ↓e_Traffic_goBy_68, ↓e_Traffic_goBy_71, ↓e_Traffic_goBy_74, ↓e_Traffic_goBy_77, ↓e_Traffic_goBy_78, ↓e_Traffic_goBy_79, ↓e_Traffic_goBy_82, ↓e_Traffic_goBy_85, ↓e_Traffic_goBy_86, ↓e_Traffic_goBy_87, ↓e_Traffic_goBy_88, ↓e_Traffic_goBy_91, ↓e_Traffic_goBy_94, ↓e_Traffic_goBy_97, ↓e_Traffic_goBy_98, ↓e_Traffic_goBy_99, ↓e_Traffic_goBy_100, ↓e_Traffic_goBy_101, ↓e_Traffic_goBy_104, ↓e_Traffic_goBy_107, ↓e_Traffic_goBy_110, ↓e_Traffic_goBy_111, ↓e_Traffic_goBy_112, ↓e_Traffic_goBy_115, ↓e_Traffic_goBy_118, ↓e_Traffic_goBy_119, ↓e_Traffic_goBy_122, ↓e_Traffic_goBy_125, ↓e_Traffic_goBy_126, ↓e_Traffic_goBy_127, ↓e_Traffic_goBy_130, ↓e_Traffic_goBy_133, ↓e_Traffic_goBy_134, ↓e_Traffic_goBy_135, ↓e_Traffic_goBy_138, ↓e_Traffic_goBy_141, ↓e_Traffic_goBy_144, not_true_eq_false, not_false_eq_true, one0, true_or, or_true, eq_self, bI_z, bI_nz, bI_o, b_ft, bI_1, bI_0, ↓kC_l, ↓kC_r, Option.toList_some, Option.toList_none, List.cons_append, List.nil_append, s1_0, s1_1i, s1_1r, s1_1w, s1_1n, s1_s, s2_0, s2_1i, s2_1r, s2_1w, s2_1n, s2_s, gI_sI, gI_sR, gI_sL, gI_sD, gR_sI, gR_sR, gR_sL, gR_sD, gL_sI, gL_sR, gL_sL, gL_sD, gD_sI, gD_sR, gD_sL, gD_sD, isK_sI, isK_sR, isK_sL, isK_sD, inL_sI, inL_sR, inL_sL, inL_sD, nx_sI, nx_sR, nx_sL, nx_sD, kd_sI, kd_sR, kd_sL, kd_sD, ln_sI, ln_sR, ln_sL, ln_sD, ↓reduceIte, c8_n, c8_1, c8_2, c8_3, c8_4, Nat.reduceAdd, k_s Sg, k_land Sg, k_nodes Sg, k_hear Sg, k_routes Sg, k_traffic Sg, k_market Sg, g_cnt Sg, r_land Sg, r_routes Sg, r_traffic Sg, r_market Sg, r_nodes Sg, r_hear Sg, r_rland Sg, r_tland Sg, r_troutes Sg, le_f (n8 Sg) hk, q_isIn, hs2 k hk, hb, ii_succ, Bool.true_eq_false, r1]) n 0 g1 (by omega) ⟨A2, V2⟩
  have q3 : ∀ j, j < n → S2 j = true → (∃ x, x < n ∧ (go9 n S2 n α2).1 j 8 = ii x) ∧ ¬ (go9 n S2 n α2).2.1 j = 0 := fun j hj w => by
    obtain ⟨x, x1, x2⟩ := W2 j hj (sd2 j w)
    refine ⟨⟨x, x1, (go_8 n S2 α2 j n).trans x2⟩, ?_⟩
    rw [go_q]
    obtain ⟨tc, t1, t2, t3, t4, t5⟩ := ai_7 A2 V2 hj
    exact t4 (by have := t5.mp (sd2 j w); omega)
  generalize hα3 : go9 n S2 n α2 = α3 at *
  obtain ⟨g3, c3, A4, V4, -⟩ := loopR (fun Q k (g : Hp) => WP Gm j_Traffic_goBy 99 [some (.inr (.inl (some 114))), some (.inl s0), some (.inl s2), some (.inl (ii k))] [] g Q)
    (fun k g => AI n g ∧ CA n g (ce9 S2 k α3) ∧ ∀ j, k ≤ j → j < n → S2 j = true → (∃ x, x < n ∧ (ce9 S2 k α3).1 j 8 = ii x) ∧ ¬ (ce9 S2 k α3).2.1 j = 0) n
    (fun k g hk hI => by
      obtain ⟨Ag, Vg, Eg⟩ := id hI
      have Sg := Ag.1
      have hk8 := lt_8 (n8 Sg) hk
      have skip : AI n g ∧ CA n g (ce9 S2 k α3) ∧ ∀ j, k + 1 ≤ j → j < n → S2 j = true → (∃ x, x < n ∧ (ce9 S2 k α3).1 j 8 = ii x) ∧ ¬ (ce9 S2 k α3).2.1 j = 0 := ⟨Ag, Vg, fun j h1 => Eg j (by omega)⟩
      rw [ce_s]
      cases hb : S2 k with
      | false =>
        rw [Bool.false_and, if_neg (by decide)]
        refine ⟨g, fun Q => ?_, skip⟩
        rw [e_Traffic_goBy_99]
        simp only [↓e_Traffic_goBy_0, ↓e_Traffic_goBy_1, ↓e_Traffic_goBy_2, ↓e_Traffic_goBy_5, ↓e_Traffic_goBy_6, ↓e_Traffic_goBy_7, ↓e_Traffic_goBy_10, ↓e_Traffic_goBy_11, ↓e_Traffic_goBy_14, ↓e_Traffic_goBy_15, ↓e_Traffic_goBy_16, ↓e_Traffic_goBy_17, ↓e_Traffic_goBy_18, ↓e_Traffic_goBy_19, ↓e_Traffic_goBy_22, ↓e_Traffic_goBy_25, ↓e_Traffic_goBy_28, ↓e_Traffic_goBy_29, ↓e_Traffic_goBy_30, ↓e_Traffic_goBy_33, ↓e_Traffic_goBy_36, ↓e_Traffic_goBy_37, ↓e_Traffic_goBy_40, ↓e_Traffic_goBy_41, ↓e_Traffic_goBy_42, ↓e_Traffic_goBy_45, ↓e_Traffic_goBy_48, ↓e_Traffic_goBy_49, ↓e_Traffic_goBy_50, ↓e_Traffic_goBy_53, ↓e_Traffic_goBy_56, ↓e_Traffic_goBy_59, ↓e_Traffic_goBy_60, ↓e_Traffic_goBy_63, ↓e_Traffic_goBy_64, ↓e_Traffic_goBy_65, ↓e_Traffic_goBy_66, ↓e_Traffic_goBy_67, ↓e_Traffic_goBy_68, ↓e_Traffic_goBy_71, ↓e_Traffic_goBy_74, ↓e_Traffic_goBy_77, ↓e_Traffic_goBy_78, ↓e_Traffic_goBy_79, ↓e_Traffic_goBy_82, ↓e_Traffic_goBy_85, ↓e_Traffic_goBy_86, ↓e_Traffic_goBy_87, ↓e_Traffic_goBy_88, ↓e_Traffic_goBy_91, ↓e_Traffic_goBy_94, ↓e_Traffic_goBy_97, ↓e_Traffic_goBy_98, ↓e_Traffic_goBy_100, ↓e_Traffic_goBy_101, ↓e_Traffic_goBy_104, ↓e_Traffic_goBy_107, ↓e_Traffic_goBy_110, ↓e_Traffic_goBy_111, ↓e_Traffic_goBy_112, ↓e_Traffic_goBy_115, ↓e_Traffic_goBy_118, ↓e_Traffic_goBy_119, ↓e_Traffic_goBy_122, ↓e_Traffic_goBy_125, ↓e_Traffic_goBy_126, ↓e_Traffic_goBy_127, ↓e_Traffic_goBy_130, ↓e_Traffic_goBy_133, ↓e_Traffic_goBy_134, ↓e_Traffic_goBy_135, ↓e_Traffic_goBy_138, ↓e_Traffic_goBy_141, ↓e_Traffic_goBy_144, not_true_eq_false, not_false_eq_true, one0, true_or, or_true, eq_self, bI_z, bI_nz, bI_o, b_ft, bI_1, bI_0, ↓kC_l, ↓kC_r, Option.toList_some, Option.toList_none, List.cons_append, List.nil_append, s1_0, s1_1i, s1_1r, s1_1w, s1_1n, s1_s, s2_0, s2_1i, s2_1r, s2_1w, s2_1n, s2_s, gI_sI, gI_sR, gI_sL, gI_sD, gR_sI, gR_sR, gR_sL, gR_sD, gL_sI, gL_sR, gL_sL, gL_sD, gD_sI, gD_sR, gD_sL, gD_sD, isK_sI, isK_sR, isK_sL, isK_sD, inL_sI, inL_sR, inL_sL, inL_sD, nx_sI, nx_sR, nx_sL, nx_sD, kd_sI, kd_sR, kd_sL, kd_sD, ln_sI, ln_sR, ln_sL, ln_sD, ↓reduceIte, c8_n, c8_1, c8_2, c8_3, c8_4, Nat.reduceAdd, k_s Sg, k_land Sg, k_nodes Sg, k_hear Sg, k_routes Sg, k_traffic Sg, k_market Sg, g_cnt Sg, r_land Sg, r_routes Sg, r_traffic Sg, r_market Sg, r_nodes Sg, r_hear Sg, r_rland Sg, r_tland Sg, r_troutes Sg, le_f (n8 Sg) hk, q_isIn, hs2 k hk, hb, ii_succ]
      | true =>
        rw [Bool.true_and]
        obtain ⟨tc, t1, t2, t3, t4, t5⟩ := ai_7 Ag Vg hk
        have e7 := Vg.1 k hk 7 (by omega) (by omega)
        by_cases h0 : tc = 0
        · subst h0
          have z7 : (ce9 S2 k α3).1 k 7 = 0 := t2
          rw [decide_eq_true z7, if_pos rfl]
          have hd : decide (0 < gI g (5 + 9 * k) 7) = false := decide_eq_false fun w => by
            rw [e7] at w
            have := t5.mp w
            omega
          obtain ⟨⟨x, x1, x2⟩, xq⟩ := Eg k (Nat.le_refl k) hk hb
          obtain ⟨g', r1, r2, r3⟩ := ca_endA Ag Vg hk x1 x2 xq (e7.trans z7)
          refine ⟨g', fun Q => ?_, r2, r3, fun j h1 h2 w => ?_⟩
          · rw [e_Traffic_goBy_99]
            simp only [↓e_Traffic_goBy_0, ↓e_Traffic_goBy_1, ↓e_Traffic_goBy_2, ↓e_Traffic_goBy_5, ↓e_Traffic_goBy_6, ↓e_Traffic_goBy_7, ↓e_Traffic_goBy_10, ↓e_Traffic_goBy_11, ↓e_Traffic_goBy_14, ↓e_Traffic_goBy_15, ↓e_Traffic_goBy_16, ↓e_Traffic_goBy_17, ↓e_Traffic_goBy_18, ↓e_Traffic_goBy_19, ↓e_Traffic_goBy_22, ↓e_Traffic_goBy_25, ↓e_Traffic_goBy_28, ↓e_Traffic_goBy_29, ↓e_Traffic_goBy_30, ↓e_Traffic_goBy_33, ↓e_Traffic_goBy_36, ↓e_Traffic_goBy_37, ↓e_Traffic_goBy_40, ↓e_Traffic_goBy_41, ↓e_Traffic_goBy_42, ↓e_Traffic_goBy_45, ↓e_Traffic_goBy_48, ↓e_Traffic_goBy_49, ↓e_Traffic_goBy_50, ↓e_Traffic_goBy_53, ↓e_Traffic_goBy_56, ↓e_Traffic_goBy_59, ↓e_Traffic_goBy_60, ↓e_Traffic_goBy_63, ↓e_Traffic_goBy_64, ↓e_Traffic_goBy_65, ↓e_Traffic_goBy_66, ↓e_Traffic_goBy_67, ↓e_Traffic_goBy_68, ↓e_Traffic_goBy_71, ↓e_Traffic_goBy_74, ↓e_Traffic_goBy_77, ↓e_Traffic_goBy_78, ↓e_Traffic_goBy_79, ↓e_Traffic_goBy_82, ↓e_Traffic_goBy_85, ↓e_Traffic_goBy_86, ↓e_Traffic_goBy_87, ↓e_Traffic_goBy_88, ↓e_Traffic_goBy_91, ↓e_Traffic_goBy_94, ↓e_Traffic_goBy_97, ↓e_Traffic_goBy_98, ↓e_Traffic_goBy_100, ↓e_Traffic_goBy_101, ↓e_Traffic_goBy_104, ↓e_Traffic_goBy_107, ↓e_Traffic_goBy_110, ↓e_Traffic_goBy_111, ↓e_Traffic_goBy_112, ↓e_Traffic_goBy_115, ↓e_Traffic_goBy_118, ↓e_Traffic_goBy_119, ↓e_Traffic_goBy_122, ↓e_Traffic_goBy_125, ↓e_Traffic_goBy_126, ↓e_Traffic_goBy_127, ↓e_Traffic_goBy_130, ↓e_Traffic_goBy_133, ↓e_Traffic_goBy_134, ↓e_Traffic_goBy_135, ↓e_Traffic_goBy_138, ↓e_Traffic_goBy_141, ↓e_Traffic_goBy_144, not_true_eq_false, not_false_eq_true, one0, true_or, or_true, eq_self, bI_z, bI_nz, bI_o, b_ft, bI_1, bI_0, ↓kC_l, ↓kC_r, Option.toList_some, Option.toList_none, List.cons_append, List.nil_append, s1_0, s1_1i, s1_1r, s1_1w, s1_1n, s1_s, s2_0, s2_1i, s2_1r, s2_1w, s2_1n, s2_s, gI_sI, gI_sR, gI_sL, gI_sD, gR_sI, gR_sR, gR_sL, gR_sD, gL_sI, gL_sR, gL_sL, gL_sD, gD_sI, gD_sR, gD_sL, gD_sD, isK_sI, isK_sR, isK_sL, isK_sD, inL_sI, inL_sR, inL_sL, inL_sD, nx_sI, nx_sR, nx_sL, nx_sD, kd_sI, kd_sR, kd_sL, kd_sD, ln_sI, ln_sR, ln_sL, ln_sD, ↓reduceIte, c8_n, c8_1, c8_2, c8_3, c8_4, Nat.reduceAdd, k_s Sg, k_land Sg, k_nodes Sg, k_hear Sg, k_routes Sg, k_traffic Sg, k_market Sg, g_cnt Sg, r_land Sg, r_routes Sg, r_traffic Sg, r_market Sg, r_nodes Sg, r_hear Sg, r_rland Sg, r_tland Sg, r_troutes Sg, l_nodes Sg hk8, l_hear Sg hk8, r_node Sg hk8, r_queue Sg hk8, r_set Sg hk8, r_frames Sg hk8, r_bits Sg hk8, k_node Sg hk8, k_queue Sg hk8, k_frames Sg hk8, k_set Sg hk8, k_bits Sg hk8, ii_nat (lt31 hk8), le_f (n8 Sg) hk, q_isIn, hs2 k hk, hb, ii_succ, Bool.true_eq_false, Bool.false_eq_true, q_isSending _ Sg hk8, hd, r1]
          · obtain ⟨⟨y, y1, y2⟩, yq⟩ := Eg j (by omega) h2 w
            refine ⟨⟨y, y1, (end_V _ _ (by omega) (by omega)).trans y2⟩, ?_⟩
            have := end_q (ce9 S2 k α3) k (show j ≠ k by omega)
            omega
        · have z7 : ¬ (ce9 S2 k α3).1 k 7 = 0 := fun w => by
            rw [t2, show (0 : Int32) = ii 0 from rfl, ii_inj (by omega) (by omega)] at w
            exact h0 w
          rw [decide_eq_false z7, if_neg (by decide)]
          have hd : decide (0 < gI g (5 + 9 * k) 7) = true := decide_eq_true (by rw [e7]; exact t5.mpr (by omega))
          refine ⟨g, fun Q => ?_, skip⟩
          rw [e_Traffic_goBy_99]
          simp only [↓e_Traffic_goBy_0, ↓e_Traffic_goBy_1, ↓e_Traffic_goBy_2, ↓e_Traffic_goBy_5, ↓e_Traffic_goBy_6, ↓e_Traffic_goBy_7, ↓e_Traffic_goBy_10, ↓e_Traffic_goBy_11, ↓e_Traffic_goBy_14, ↓e_Traffic_goBy_15, ↓e_Traffic_goBy_16, ↓e_Traffic_goBy_17, ↓e_Traffic_goBy_18, ↓e_Traffic_goBy_19, ↓e_Traffic_goBy_22, ↓e_Traffic_goBy_25, ↓e_Traffic_goBy_28, ↓e_Traffic_goBy_29, ↓e_Traffic_goBy_30, ↓e_Traffic_goBy_33, ↓e_Traffic_goBy_36, ↓e_Traffic_goBy_37, ↓e_Traffic_goBy_40, ↓e_Traffic_goBy_41, ↓e_Traffic_goBy_42, ↓e_Traffic_goBy_45, ↓e_Traffic_goBy_48, ↓e_Traffic_goBy_49, ↓e_Traffic_goBy_50, ↓e_Traffic_goBy_53, ↓e_Traffic_goBy_56, ↓e_Traffic_goBy_59, ↓e_Traffic_goBy_60, ↓e_Traffic_goBy_63, ↓e_Traffic_goBy_64, ↓e_Traffic_goBy_65, ↓e_Traffic_goBy_66, ↓e_Traffic_goBy_67, ↓e_Traffic_goBy_68, ↓e_Traffic_goBy_71, ↓e_Traffic_goBy_74, ↓e_Traffic_goBy_77, ↓e_Traffic_goBy_78, ↓e_Traffic_goBy_79, ↓e_Traffic_goBy_82, ↓e_Traffic_goBy_85, ↓e_Traffic_goBy_86, ↓e_Traffic_goBy_87, ↓e_Traffic_goBy_88, ↓e_Traffic_goBy_91, ↓e_Traffic_goBy_94, ↓e_Traffic_goBy_97, ↓e_Traffic_goBy_98, ↓e_Traffic_goBy_100, ↓e_Traffic_goBy_101, ↓e_Traffic_goBy_104, ↓e_Traffic_goBy_107, ↓e_Traffic_goBy_110, ↓e_Traffic_goBy_111, ↓e_Traffic_goBy_112, ↓e_Traffic_goBy_115, ↓e_Traffic_goBy_118, ↓e_Traffic_goBy_119, ↓e_Traffic_goBy_122, ↓e_Traffic_goBy_125, ↓e_Traffic_goBy_126, ↓e_Traffic_goBy_127, ↓e_Traffic_goBy_130, ↓e_Traffic_goBy_133, ↓e_Traffic_goBy_134, ↓e_Traffic_goBy_135, ↓e_Traffic_goBy_138, ↓e_Traffic_goBy_141, ↓e_Traffic_goBy_144, not_true_eq_false, not_false_eq_true, one0, true_or, or_true, eq_self, bI_z, bI_nz, bI_o, b_ft, bI_1, bI_0, ↓kC_l, ↓kC_r, Option.toList_some, Option.toList_none, List.cons_append, List.nil_append, s1_0, s1_1i, s1_1r, s1_1w, s1_1n, s1_s, s2_0, s2_1i, s2_1r, s2_1w, s2_1n, s2_s, gI_sI, gI_sR, gI_sL, gI_sD, gR_sI, gR_sR, gR_sL, gR_sD, gL_sI, gL_sR, gL_sL, gL_sD, gD_sI, gD_sR, gD_sL, gD_sD, isK_sI, isK_sR, isK_sL, isK_sD, inL_sI, inL_sR, inL_sL, inL_sD, nx_sI, nx_sR, nx_sL, nx_sD, kd_sI, kd_sR, kd_sL, kd_sD, ln_sI, ln_sR, ln_sL, ln_sD, ↓reduceIte, c8_n, c8_1, c8_2, c8_3, c8_4, Nat.reduceAdd, k_s Sg, k_land Sg, k_nodes Sg, k_hear Sg, k_routes Sg, k_traffic Sg, k_market Sg, g_cnt Sg, r_land Sg, r_routes Sg, r_traffic Sg, r_market Sg, r_nodes Sg, r_hear Sg, r_rland Sg, r_tland Sg, r_troutes Sg, l_nodes Sg hk8, l_hear Sg hk8, r_node Sg hk8, r_queue Sg hk8, r_set Sg hk8, r_frames Sg hk8, r_bits Sg hk8, k_node Sg hk8, k_queue Sg hk8, k_frames Sg hk8, k_set Sg hk8, k_bits Sg hk8, ii_nat (lt31 hk8), le_f (n8 Sg) hk, q_isIn, hs2 k hk, hb, ii_succ, Bool.true_eq_false, q_isSending _ Sg hk8, hd]) n 0 g2 (by omega) ⟨A3, V3, fun j _ hj w => q3 j hj w⟩
  refine ⟨g3, fun Q => ?_, A4, V4⟩
  have hh1' := hh1
  rw [← e2] at hh1'
  simp only [↓e_Traffic_goBy_0, ↓e_Traffic_goBy_1, ↓e_Traffic_goBy_2, ↓e_Traffic_goBy_5, ↓e_Traffic_goBy_6, ↓e_Traffic_goBy_7, ↓e_Traffic_goBy_10, ↓e_Traffic_goBy_11, ↓e_Traffic_goBy_14, ↓e_Traffic_goBy_15, ↓e_Traffic_goBy_16, ↓e_Traffic_goBy_18, ↓e_Traffic_goBy_19, ↓e_Traffic_goBy_22, ↓e_Traffic_goBy_25, ↓e_Traffic_goBy_28, ↓e_Traffic_goBy_29, ↓e_Traffic_goBy_30, ↓e_Traffic_goBy_33, ↓e_Traffic_goBy_36, ↓e_Traffic_goBy_37, ↓e_Traffic_goBy_40, ↓e_Traffic_goBy_41, ↓e_Traffic_goBy_42, ↓e_Traffic_goBy_45, ↓e_Traffic_goBy_48, ↓e_Traffic_goBy_49, ↓e_Traffic_goBy_50, ↓e_Traffic_goBy_53, ↓e_Traffic_goBy_56, ↓e_Traffic_goBy_59, ↓e_Traffic_goBy_60, ↓e_Traffic_goBy_63, ↓e_Traffic_goBy_64, ↓e_Traffic_goBy_65, ↓e_Traffic_goBy_67, ↓e_Traffic_goBy_68, ↓e_Traffic_goBy_71, ↓e_Traffic_goBy_74, ↓e_Traffic_goBy_77, ↓e_Traffic_goBy_78, ↓e_Traffic_goBy_79, ↓e_Traffic_goBy_82, ↓e_Traffic_goBy_85, ↓e_Traffic_goBy_86, ↓e_Traffic_goBy_87, ↓e_Traffic_goBy_88, ↓e_Traffic_goBy_91, ↓e_Traffic_goBy_94, ↓e_Traffic_goBy_97, ↓e_Traffic_goBy_98, ↓e_Traffic_goBy_100, ↓e_Traffic_goBy_101, ↓e_Traffic_goBy_104, ↓e_Traffic_goBy_107, ↓e_Traffic_goBy_110, ↓e_Traffic_goBy_111, ↓e_Traffic_goBy_112, ↓e_Traffic_goBy_115, ↓e_Traffic_goBy_118, ↓e_Traffic_goBy_119, ↓e_Traffic_goBy_122, ↓e_Traffic_goBy_125, ↓e_Traffic_goBy_126, ↓e_Traffic_goBy_127, ↓e_Traffic_goBy_130, ↓e_Traffic_goBy_133, ↓e_Traffic_goBy_134, ↓e_Traffic_goBy_135, ↓e_Traffic_goBy_138, ↓e_Traffic_goBy_141, ↓e_Traffic_goBy_144, not_true_eq_false, not_false_eq_true, one0, true_or, or_true, eq_self, bI_z, bI_nz, bI_o, b_ft, bI_1, bI_0, ↓kC_l, ↓kC_r, Option.toList_some, Option.toList_none, List.cons_append, List.nil_append, s1_0, s1_1i, s1_1r, s1_1w, s1_1n, s1_s, s2_0, s2_1i, s2_1r, s2_1w, s2_1n, s2_s, gI_sI, gI_sR, gI_sL, gI_sD, gR_sI, gR_sR, gR_sL, gR_sD, gL_sI, gL_sR, gL_sL, gL_sD, gD_sI, gD_sR, gD_sL, gD_sD, isK_sI, isK_sR, isK_sL, isK_sD, inL_sI, inL_sR, inL_sL, inL_sD, nx_sI, nx_sR, nx_sL, nx_sD, kd_sI, kd_sR, kd_sL, kd_sD, ln_sI, ln_sR, ln_sL, ln_sD, ↓reduceIte, c8_n, c8_1, c8_2, c8_3, c8_4, Nat.reduceAdd, k_s A.1, k_land A.1, k_nodes A.1, k_hear A.1, k_routes A.1, k_traffic A.1, k_market A.1, g_cnt A.1, r_land A.1, r_routes A.1, r_traffic A.1, r_market A.1, r_nodes A.1, r_hear A.1, r_rland A.1, r_tland A.1, r_troutes A.1, e2, hh1, k_s A1.1, k_land A1.1, k_nodes A1.1, k_hear A1.1, k_routes A1.1, k_traffic A1.1, k_market A1.1, g_cnt A1.1, r_land A1.1, r_routes A1.1, r_traffic A1.1, r_market A1.1, r_nodes A1.1, r_hear A1.1, r_rland A1.1, r_tland A1.1, r_troutes A1.1, q_senders _ A1.1, hsnd]
  refine (c1 Q).trans ?_
  rw [e_Traffic_goBy_17]
  simp only [↓e_Traffic_goBy_0, ↓e_Traffic_goBy_1, ↓e_Traffic_goBy_2, ↓e_Traffic_goBy_5, ↓e_Traffic_goBy_6, ↓e_Traffic_goBy_7, ↓e_Traffic_goBy_10, ↓e_Traffic_goBy_11, ↓e_Traffic_goBy_14, ↓e_Traffic_goBy_15, ↓e_Traffic_goBy_16, ↓e_Traffic_goBy_18, ↓e_Traffic_goBy_19, ↓e_Traffic_goBy_22, ↓e_Traffic_goBy_25, ↓e_Traffic_goBy_28, ↓e_Traffic_goBy_29, ↓e_Traffic_goBy_30, ↓e_Traffic_goBy_33, ↓e_Traffic_goBy_36, ↓e_Traffic_goBy_37, ↓e_Traffic_goBy_40, ↓e_Traffic_goBy_41, ↓e_Traffic_goBy_42, ↓e_Traffic_goBy_45, ↓e_Traffic_goBy_48, ↓e_Traffic_goBy_49, ↓e_Traffic_goBy_50, ↓e_Traffic_goBy_53, ↓e_Traffic_goBy_56, ↓e_Traffic_goBy_59, ↓e_Traffic_goBy_60, ↓e_Traffic_goBy_63, ↓e_Traffic_goBy_64, ↓e_Traffic_goBy_65, ↓e_Traffic_goBy_67, ↓e_Traffic_goBy_68, ↓e_Traffic_goBy_71, ↓e_Traffic_goBy_74, ↓e_Traffic_goBy_77, ↓e_Traffic_goBy_78, ↓e_Traffic_goBy_79, ↓e_Traffic_goBy_82, ↓e_Traffic_goBy_85, ↓e_Traffic_goBy_86, ↓e_Traffic_goBy_87, ↓e_Traffic_goBy_88, ↓e_Traffic_goBy_91, ↓e_Traffic_goBy_94, ↓e_Traffic_goBy_97, ↓e_Traffic_goBy_98, ↓e_Traffic_goBy_100, ↓e_Traffic_goBy_101, ↓e_Traffic_goBy_104, ↓e_Traffic_goBy_107, ↓e_Traffic_goBy_110, ↓e_Traffic_goBy_111, ↓e_Traffic_goBy_112, ↓e_Traffic_goBy_115, ↓e_Traffic_goBy_118, ↓e_Traffic_goBy_119, ↓e_Traffic_goBy_122, ↓e_Traffic_goBy_125, ↓e_Traffic_goBy_126, ↓e_Traffic_goBy_127, ↓e_Traffic_goBy_130, ↓e_Traffic_goBy_133, ↓e_Traffic_goBy_134, ↓e_Traffic_goBy_135, ↓e_Traffic_goBy_138, ↓e_Traffic_goBy_141, ↓e_Traffic_goBy_144, not_true_eq_false, not_false_eq_true, one0, true_or, or_true, eq_self, bI_z, bI_nz, bI_o, b_ft, bI_1, bI_0, ↓kC_l, ↓kC_r, Option.toList_some, Option.toList_none, List.cons_append, List.nil_append, s1_0, s1_1i, s1_1r, s1_1w, s1_1n, s1_s, s2_0, s2_1i, s2_1r, s2_1w, s2_1n, s2_s, gI_sI, gI_sR, gI_sL, gI_sD, gR_sI, gR_sR, gR_sL, gR_sD, gL_sI, gL_sR, gL_sL, gL_sD, gD_sI, gD_sR, gD_sL, gD_sD, isK_sI, isK_sR, isK_sL, isK_sD, inL_sI, inL_sR, inL_sL, inL_sD, nx_sI, nx_sR, nx_sL, nx_sD, kd_sI, kd_sR, kd_sL, kd_sD, ln_sI, ln_sR, ln_sL, ln_sD, ↓reduceIte, c8_n, c8_1, c8_2, c8_3, c8_4, Nat.reduceAdd, k_s A2.1, k_land A2.1, k_nodes A2.1, k_hear A2.1, k_routes A2.1, k_traffic A2.1, k_market A2.1, g_cnt A2.1, r_land A2.1, r_routes A2.1, r_traffic A2.1, r_market A2.1, r_nodes A2.1, r_hear A2.1, r_rland A2.1, r_tland A2.1, r_troutes A2.1, le_t (n8 A2.1), q_senders _ A2.1, hsnd2]
  refine (c2 Q).trans ?_
  rw [e_Traffic_goBy_66]
  simp only [↓e_Traffic_goBy_0, ↓e_Traffic_goBy_1, ↓e_Traffic_goBy_2, ↓e_Traffic_goBy_5, ↓e_Traffic_goBy_6, ↓e_Traffic_goBy_7, ↓e_Traffic_goBy_10, ↓e_Traffic_goBy_11, ↓e_Traffic_goBy_14, ↓e_Traffic_goBy_15, ↓e_Traffic_goBy_16, ↓e_Traffic_goBy_18, ↓e_Traffic_goBy_19, ↓e_Traffic_goBy_22, ↓e_Traffic_goBy_25, ↓e_Traffic_goBy_28, ↓e_Traffic_goBy_29, ↓e_Traffic_goBy_30, ↓e_Traffic_goBy_33, ↓e_Traffic_goBy_36, ↓e_Traffic_goBy_37, ↓e_Traffic_goBy_40, ↓e_Traffic_goBy_41, ↓e_Traffic_goBy_42, ↓e_Traffic_goBy_45, ↓e_Traffic_goBy_48, ↓e_Traffic_goBy_49, ↓e_Traffic_goBy_50, ↓e_Traffic_goBy_53, ↓e_Traffic_goBy_56, ↓e_Traffic_goBy_59, ↓e_Traffic_goBy_60, ↓e_Traffic_goBy_63, ↓e_Traffic_goBy_64, ↓e_Traffic_goBy_65, ↓e_Traffic_goBy_67, ↓e_Traffic_goBy_68, ↓e_Traffic_goBy_71, ↓e_Traffic_goBy_74, ↓e_Traffic_goBy_77, ↓e_Traffic_goBy_78, ↓e_Traffic_goBy_79, ↓e_Traffic_goBy_82, ↓e_Traffic_goBy_85, ↓e_Traffic_goBy_86, ↓e_Traffic_goBy_87, ↓e_Traffic_goBy_88, ↓e_Traffic_goBy_91, ↓e_Traffic_goBy_94, ↓e_Traffic_goBy_97, ↓e_Traffic_goBy_98, ↓e_Traffic_goBy_100, ↓e_Traffic_goBy_101, ↓e_Traffic_goBy_104, ↓e_Traffic_goBy_107, ↓e_Traffic_goBy_110, ↓e_Traffic_goBy_111, ↓e_Traffic_goBy_112, ↓e_Traffic_goBy_115, ↓e_Traffic_goBy_118, ↓e_Traffic_goBy_119, ↓e_Traffic_goBy_122, ↓e_Traffic_goBy_125, ↓e_Traffic_goBy_126, ↓e_Traffic_goBy_127, ↓e_Traffic_goBy_130, ↓e_Traffic_goBy_133, ↓e_Traffic_goBy_134, ↓e_Traffic_goBy_135, ↓e_Traffic_goBy_138, ↓e_Traffic_goBy_141, ↓e_Traffic_goBy_144, not_true_eq_false, not_false_eq_true, one0, true_or, or_true, eq_self, bI_z, bI_nz, bI_o, b_ft, bI_1, bI_0, ↓kC_l, ↓kC_r, Option.toList_some, Option.toList_none, List.cons_append, List.nil_append, s1_0, s1_1i, s1_1r, s1_1w, s1_1n, s1_s, s2_0, s2_1i, s2_1r, s2_1w, s2_1n, s2_s, gI_sI, gI_sR, gI_sL, gI_sD, gR_sI, gR_sR, gR_sL, gR_sD, gL_sI, gL_sR, gL_sL, gL_sD, gD_sI, gD_sR, gD_sL, gD_sD, isK_sI, isK_sR, isK_sL, isK_sD, inL_sI, inL_sR, inL_sL, inL_sD, nx_sI, nx_sR, nx_sL, nx_sD, kd_sI, kd_sR, kd_sL, kd_sD, ln_sI, ln_sR, ln_sL, ln_sD, ↓reduceIte, c8_n, c8_1, c8_2, c8_3, c8_4, Nat.reduceAdd, k_s A3.1, k_land A3.1, k_nodes A3.1, k_hear A3.1, k_routes A3.1, k_traffic A3.1, k_market A3.1, g_cnt A3.1, r_land A3.1, r_routes A3.1, r_traffic A3.1, r_market A3.1, r_nodes A3.1, r_hear A3.1, r_rland A3.1, r_tland A3.1, r_troutes A3.1, le_t (n8 A3.1)]
  refine (c3 Q).trans ?_
  rw [e_Traffic_goBy_99]
  simp only [↓e_Traffic_goBy_0, ↓e_Traffic_goBy_1, ↓e_Traffic_goBy_2, ↓e_Traffic_goBy_5, ↓e_Traffic_goBy_6, ↓e_Traffic_goBy_7, ↓e_Traffic_goBy_10, ↓e_Traffic_goBy_11, ↓e_Traffic_goBy_14, ↓e_Traffic_goBy_15, ↓e_Traffic_goBy_16, ↓e_Traffic_goBy_18, ↓e_Traffic_goBy_19, ↓e_Traffic_goBy_22, ↓e_Traffic_goBy_25, ↓e_Traffic_goBy_28, ↓e_Traffic_goBy_29, ↓e_Traffic_goBy_30, ↓e_Traffic_goBy_33, ↓e_Traffic_goBy_36, ↓e_Traffic_goBy_37, ↓e_Traffic_goBy_40, ↓e_Traffic_goBy_41, ↓e_Traffic_goBy_42, ↓e_Traffic_goBy_45, ↓e_Traffic_goBy_48, ↓e_Traffic_goBy_49, ↓e_Traffic_goBy_50, ↓e_Traffic_goBy_53, ↓e_Traffic_goBy_56, ↓e_Traffic_goBy_59, ↓e_Traffic_goBy_60, ↓e_Traffic_goBy_63, ↓e_Traffic_goBy_64, ↓e_Traffic_goBy_65, ↓e_Traffic_goBy_67, ↓e_Traffic_goBy_68, ↓e_Traffic_goBy_71, ↓e_Traffic_goBy_74, ↓e_Traffic_goBy_77, ↓e_Traffic_goBy_78, ↓e_Traffic_goBy_79, ↓e_Traffic_goBy_82, ↓e_Traffic_goBy_85, ↓e_Traffic_goBy_86, ↓e_Traffic_goBy_87, ↓e_Traffic_goBy_88, ↓e_Traffic_goBy_91, ↓e_Traffic_goBy_94, ↓e_Traffic_goBy_97, ↓e_Traffic_goBy_98, ↓e_Traffic_goBy_100, ↓e_Traffic_goBy_101, ↓e_Traffic_goBy_104, ↓e_Traffic_goBy_107, ↓e_Traffic_goBy_110, ↓e_Traffic_goBy_111, ↓e_Traffic_goBy_112, ↓e_Traffic_goBy_115, ↓e_Traffic_goBy_118, ↓e_Traffic_goBy_119, ↓e_Traffic_goBy_122, ↓e_Traffic_goBy_125, ↓e_Traffic_goBy_126, ↓e_Traffic_goBy_127, ↓e_Traffic_goBy_130, ↓e_Traffic_goBy_133, ↓e_Traffic_goBy_134, ↓e_Traffic_goBy_135, ↓e_Traffic_goBy_138, ↓e_Traffic_goBy_141, ↓e_Traffic_goBy_144, not_true_eq_false, not_false_eq_true, one0, true_or, or_true, eq_self, bI_z, bI_nz, bI_o, b_ft, bI_1, bI_0, ↓kC_l, ↓kC_r, Option.toList_some, Option.toList_none, List.cons_append, List.nil_append, s1_0, s1_1i, s1_1r, s1_1w, s1_1n, s1_s, s2_0, s2_1i, s2_1r, s2_1w, s2_1n, s2_s, gI_sI, gI_sR, gI_sL, gI_sD, gR_sI, gR_sR, gR_sL, gR_sD, gL_sI, gL_sR, gL_sL, gL_sD, gD_sI, gD_sR, gD_sL, gD_sD, isK_sI, isK_sR, isK_sL, isK_sD, inL_sI, inL_sR, inL_sL, inL_sD, nx_sI, nx_sR, nx_sL, nx_sD, kd_sI, kd_sR, kd_sL, kd_sD, ln_sI, ln_sR, ln_sL, ln_sD, ↓reduceIte, c8_n, c8_1, c8_2, c8_3, c8_4, Nat.reduceAdd, k_s A4.1, k_land A4.1, k_nodes A4.1, k_hear A4.1, k_routes A4.1, k_traffic A4.1, k_market A4.1, g_cnt A4.1, r_land A4.1, r_routes A4.1, r_traffic A4.1, r_market A4.1, r_nodes A4.1, r_hear A4.1, r_rland A4.1, r_tland A4.1, r_troutes A4.1, le_t (n8 A4.1)]
end XC4
