/-! psend: send -/
section SE
variable {n B T : Nat} {h : Hp}
theorem Vf.grow {h' : Hp} {f : Nat} (V : Vf n h f) (e1 : ∀ k, gI h' f k = gI h f k) (e2 : ∀ x s, x < n → gI h (5 + 9 * x) 14 = ii s → s ≤ 512 → ∃ s', gI h' (5 + 9 * x) 14 = ii s' ∧ s ≤ s' ∧ s' ≤ 512) : Vf n h' f := by
  obtain ⟨a1, a2, a3, a4, a5, b1, b2, b3, b4, b5, b6, b7, b8, b9, b10, b11⟩ := V
  obtain ⟨s', s1, s2, s3⟩ := e2 a1 a5 b2 b9 b11
  exact ⟨a1, a2, a3, a4, s', by rw [e1]; exact b1, b2, by rw [e1]; exact b3, b4, by rw [e1]; exact b5, b6, b7, by rw [e1]; exact b8, s1, by omega, s3⟩
theorem q_queueAdd2 (S : Str n h) {i q : Nat} (hi : i < 8) (hq4 : q ≤ 4) (hq : gI h (6 + 9 * i) 1 = ii q) (x0 x1 x2 x3 x4 : Int32) :
    (¬ q < 4 ∧ ∀ Q, WP Gm j_FrameQueue_add 0 [some (.inr (.inl (some (6 + 9 * i)))), some (.inl x0), some (.inl x1), some (.inl x2), some (.inl x3), some (.inl x4), none] [] h Q = Q (.inl (some (.inl 0))) h) ∨
    (q < 4 ∧ ∃ f, f < 4 ∧ gR h (7 + 9 * i) q = some (8 + 9 * i + f) ∧ ∀ Q, WP Gm j_FrameQueue_add 0 [some (.inr (.inl (some (6 + 9 * i)))), some (.inl x0), some (.inl x1), some (.inl x2), some (.inl x3), some (.inl x4), none] [] h Q = Q (.inl (some (.inl 1))) (sI (sI (sI (sI (sI (sI h (8 + 9 * i + f) 0 x0) (8 + 9 * i + f) 1 x1) (8 + 9 * i + f) 2 x2) (8 + 9 * i + f) 3 x3) (8 + 9 * i + f) 4 x4) (6 + 9 * i) 1 (ii (q + 1)))) := by
  have e1 : (ii q < (4 : Int32)) = (q < 4) := ii_lt (j := 4) (by omega) (by omega)
  by_cases h4 : q < 4
  · obtain ⟨f, hf, hr⟩ := r_frame S hi h4
    have e9 : ¬ 6 + 9 * i = 8 + 9 * i + f := by omega
    refine Or.inr ⟨h4, f, hf, hr, fun Q => ?_⟩
    simp only [↓e_FrameQueue_add_0, ↓e_FrameQueue_add_1, ↓e_FrameQueue_add_4, ↓e_FrameQueue_add_5, ↓e_FrameQueue_add_8, ↓e_FrameQueue_add_9, ↓e_FrameQueue_add_10, ↓e_FrameQueue_add_11, ↓e_FrameQueue_add_14, ↓e_FrameQueue_add_15, ↓e_FrameQueue_add_18, ↓e_FrameQueue_add_19, ↓e_FrameQueue_add_21, ↓e_FrameQueue_add_23, ↓e_FrameQueue_add_24, ↓e_FrameQueue_add_27, ↓e_FrameQueue_add_29, ↓e_FrameQueue_add_30, ↓e_FrameQueue_add_33, ↓e_FrameQueue_add_35, ↓e_FrameQueue_add_36, ↓e_FrameQueue_add_39, ↓e_FrameQueue_add_41, ↓e_FrameQueue_add_43, ↓e_FrameQueue_add_46, ↓e_FrameQueue_add_48, ↓e_FrameQueue_add_50, ↓e_FrameQueue_add_53, ↓e_FrameQueue_add_54, ↓e_FrameQueue_add_55, ↓e_FrameQueue_add_58, ↓e_FrameQueue_add_59, ↓e_FrameQueue_add_60, ↓e_FrameQueue_add_63, ↓e_FrameQueue_add_64, not_true_eq_false, not_false_eq_true, one0, true_or, or_true, eq_self, bI_z, bI_nz, bI_o, b_ft, bI_1, bI_0, ↓kC_l, ↓kC_r, Option.toList_some, Option.toList_none, List.cons_append, List.nil_append, s1_0, s1_1i, s1_1r, s1_1w, s1_1n, s1_s, s2_0, s2_1i, s2_1r, s2_1w, s2_1n, s2_s, gI_sI, gI_sR, gI_sL, gI_sD, gR_sI, gR_sR, gR_sL, gR_sD, gL_sI, gL_sR, gL_sL, gL_sD, gD_sI, gD_sR, gD_sL, gD_sD, isK_sI, isK_sR, isK_sL, isK_sD, inL_sI, inL_sR, inL_sL, inL_sD, nx_sI, nx_sR, nx_sL, nx_sD, kd_sI, kd_sR, kd_sL, kd_sD, ln_sI, ln_sR, ln_sL, ln_sD, ↓reduceIte, c8_n, c8_1, c8_2, c8_3, c8_4, Nat.reduceAdd, k_s S, k_land S, k_nodes S, k_hear S, k_routes S, k_traffic S, k_market S, g_cnt S, r_land S, r_routes S, r_traffic S, r_market S, r_nodes S, r_hear S, r_rland S, r_tland S, r_troutes S, l_nodes S hi, l_hear S hi, r_node S hi, r_queue S hi, r_set S hi, r_frames S hi, r_bits S hi, k_node S hi, k_queue S hi, k_frames S hi, k_set S hi, k_bits S hi, ii_nat (lt31 hi), hq, e1, h4, l_frames S hi h4, ii_nat (show q < 2147483648 by omega), hr, k_frame S hi hf, e9, false_and, ii_succ]
  · refine Or.inl ⟨h4, fun Q => ?_⟩
    simp only [↓e_FrameQueue_add_0, ↓e_FrameQueue_add_1, ↓e_FrameQueue_add_4, ↓e_FrameQueue_add_5, ↓e_FrameQueue_add_8, ↓e_FrameQueue_add_9, ↓e_FrameQueue_add_10, ↓e_FrameQueue_add_11, ↓e_FrameQueue_add_14, ↓e_FrameQueue_add_15, ↓e_FrameQueue_add_18, ↓e_FrameQueue_add_19, ↓e_FrameQueue_add_21, ↓e_FrameQueue_add_23, ↓e_FrameQueue_add_24, ↓e_FrameQueue_add_27, ↓e_FrameQueue_add_29, ↓e_FrameQueue_add_30, ↓e_FrameQueue_add_33, ↓e_FrameQueue_add_35, ↓e_FrameQueue_add_36, ↓e_FrameQueue_add_39, ↓e_FrameQueue_add_41, ↓e_FrameQueue_add_43, ↓e_FrameQueue_add_46, ↓e_FrameQueue_add_48, ↓e_FrameQueue_add_50, ↓e_FrameQueue_add_53, ↓e_FrameQueue_add_54, ↓e_FrameQueue_add_55, ↓e_FrameQueue_add_58, ↓e_FrameQueue_add_59, ↓e_FrameQueue_add_60, ↓e_FrameQueue_add_63, ↓e_FrameQueue_add_64, not_true_eq_false, not_false_eq_true, one0, true_or, or_true, eq_self, bI_z, bI_nz, bI_o, b_ft, bI_1, bI_0, ↓kC_l, ↓kC_r, Option.toList_some, Option.toList_none, List.cons_append, List.nil_append, s1_0, s1_1i, s1_1r, s1_1w, s1_1n, s1_s, s2_0, s2_1i, s2_1r, s2_1w, s2_1n, s2_s, gI_sI, gI_sR, gI_sL, gI_sD, gR_sI, gR_sR, gR_sL, gR_sD, gL_sI, gL_sR, gL_sL, gL_sD, gD_sI, gD_sR, gD_sL, gD_sD, isK_sI, isK_sR, isK_sL, isK_sD, inL_sI, inL_sR, inL_sL, inL_sD, nx_sI, nx_sR, nx_sL, nx_sD, kd_sI, kd_sR, kd_sL, kd_sD, ln_sI, ln_sR, ln_sL, ln_sD, ↓reduceIte, c8_n, c8_1, c8_2, c8_3, c8_4, Nat.reduceAdd, k_s S, k_land S, k_nodes S, k_hear S, k_routes S, k_traffic S, k_market S, g_cnt S, r_land S, r_routes S, r_traffic S, r_market S, r_nodes S, r_hear S, r_rland S, r_tland S, r_troutes S, l_nodes S hi, l_hear S hi, r_node S hi, r_queue S hi, r_set S hi, r_frames S hi, r_bits S hi, k_node S hi, k_queue S hi, k_frames S hi, k_set S hi, k_bits S hi, ii_nat (lt31 hi), hq, e1, h4]
theorem s_send (L : LV n B T h) (hB : B ≤ 2000) (hT : T ≤ 511) (hr : okR cM sM h 1 6 = true) {i j len : Nat} (hi : i < n) (hj : j < n) (hl1 : 1 ≤ len) (hl : len ≤ 3) : ∃ r h', (∀ Q, WP Gm j_S_send 0 [some (.inr (.inl (some 1))), some (.inl (ii i)), some (.inl (ii j)), some (.inl (ii len)), none, none] [] h Q = Q r h') ∧ OKr r ∧ ST n B T h h' := by
  obtain ⟨⟨A, c, c1, c2, M⟩, C, V, sl⟩ := id L
  obtain ⟨S, SI9, N, ⟨lk, l1, l2⟩, D⟩ := id A
  have hn := n8 S
  have hi8 := lt_8 (n8 S) hi
  have w1 : (decide ((1 : Int32) ≤ ii len) && decide (ii len ≤ 3)) = true := wthn (a := 1) (b := 3) (by omega) (by omega) (by omega) (by omega) (by omega)
  by_cases hij : i = j
  · refine ⟨.inr 0, _, fun Q => ?_, Or.inr ⟨0, by omega, rfl⟩, ST.exc L hB kc_IllegalArgumentException⟩
    subst hij
    simp only [↓e_S_send_0, ↓e_S_send_1, ↓e_S_send_2, ↓e_S_send_5, ↓e_S_send_6, ↓e_S_send_7, ↓e_S_send_10, ↓e_S_send_11, ↓e_S_send_12, ↓e_S_send_15, ↓e_S_send_16, ↓e_S_send_17, ↓e_S_send_18, ↓e_S_send_21, ↓e_S_send_24, ↓e_S_send_34, ↓e_S_send_35, ↓e_S_send_38, ↓e_S_send_41, ↓e_S_send_42, ↓e_S_send_43, ↓e_S_send_45, ↓e_S_send_47, ↓e_S_send_50, ↓e_S_send_52, ↓e_S_send_54, ↓e_S_send_57, ↓e_S_send_58, ↓e_S_send_59, ↓e_S_send_60, ↓e_S_send_62, ↓e_S_send_63, ↓e_S_send_66, ↓e_S_send_69, ↓e_S_send_79, ↓e_S_send_81, ↓e_S_send_82, ↓e_S_send_85, ↓e_S_send_86, ↓e_S_send_87, ↓e_S_send_90, ↓e_S_send_92, not_true_eq_false, not_false_eq_true, one0, true_or, or_true, eq_self, bI_z, bI_nz, bI_o, b_ft, bI_1, bI_0, ↓kC_l, ↓kC_r, Option.toList_some, Option.toList_none, List.cons_append, List.nil_append, s1_0, s1_1i, s1_1r, s1_1w, s1_1n, s1_s, s2_0, s2_1i, s2_1r, s2_1w, s2_1n, s2_s, gI_sI, gI_sR, gI_sL, gI_sD, gR_sI, gR_sR, gR_sL, gR_sD, gL_sI, gL_sR, gL_sL, gL_sD, gD_sI, gD_sR, gD_sL, gD_sD, isK_sI, isK_sR, isK_sL, isK_sD, inL_sI, inL_sR, inL_sL, inL_sD, nx_sI, nx_sR, nx_sL, nx_sD, kd_sI, kd_sR, kd_sL, kd_sD, ln_sI, ln_sR, ln_sL, ln_sD, ↓reduceIte, c8_n, c8_1, c8_2, c8_3, c8_4, Nat.reduceAdd, k_s S, k_land S, k_nodes S, k_hear S, k_routes S, k_traffic S, k_market S, g_cnt S, r_land S, r_routes S, r_traffic S, r_market S, r_nodes S, r_hear S, r_rland S, r_tland S, r_troutes S, q_checkNode _ S hi, hr]
  · have hne : (ii i = ii j) = False := by rw [ii_inj (by omega) (by omega)]; exact eq_false hij
    obtain ⟨s, s1, s2⟩ := V i hi
    obtain ⟨⟨q, q1, q2, q3⟩, V2, V3, V4⟩ := id (N i hi)
    rcases q_queueAdd2 S hi8 q1 q2 (ii i) (ii j) (ii len) (ii s) 0 with ⟨h4, r1⟩ | ⟨h4, f, f1, f2, r1⟩
    · refine ⟨.inr 1, _, fun Q => ?_, Or.inr ⟨1, by omega, rfl⟩, ST.exc L hB kc_IllegalStateException⟩
      simp only [↓e_S_send_0, ↓e_S_send_1, ↓e_S_send_2, ↓e_S_send_5, ↓e_S_send_6, ↓e_S_send_7, ↓e_S_send_10, ↓e_S_send_11, ↓e_S_send_12, ↓e_S_send_15, ↓e_S_send_16, ↓e_S_send_17, ↓e_S_send_18, ↓e_S_send_21, ↓e_S_send_24, ↓e_S_send_34, ↓e_S_send_35, ↓e_S_send_38, ↓e_S_send_41, ↓e_S_send_42, ↓e_S_send_43, ↓e_S_send_45, ↓e_S_send_47, ↓e_S_send_50, ↓e_S_send_52, ↓e_S_send_54, ↓e_S_send_57, ↓e_S_send_58, ↓e_S_send_59, ↓e_S_send_60, ↓e_S_send_62, ↓e_S_send_63, ↓e_S_send_66, ↓e_S_send_69, ↓e_S_send_79, ↓e_S_send_81, ↓e_S_send_82, ↓e_S_send_85, ↓e_S_send_86, ↓e_S_send_87, ↓e_S_send_90, ↓e_S_send_92, not_true_eq_false, not_false_eq_true, one0, true_or, or_true, eq_self, bI_z, bI_nz, bI_o, b_ft, bI_1, bI_0, ↓kC_l, ↓kC_r, Option.toList_some, Option.toList_none, List.cons_append, List.nil_append, s1_0, s1_1i, s1_1r, s1_1w, s1_1n, s1_s, s2_0, s2_1i, s2_1r, s2_1w, s2_1n, s2_s, gI_sI, gI_sR, gI_sL, gI_sD, gR_sI, gR_sR, gR_sL, gR_sD, gL_sI, gL_sR, gL_sL, gL_sD, gD_sI, gD_sR, gD_sL, gD_sD, isK_sI, isK_sR, isK_sL, isK_sD, inL_sI, inL_sR, inL_sL, inL_sD, nx_sI, nx_sR, nx_sL, nx_sD, kd_sI, kd_sR, kd_sL, kd_sD, ln_sI, ln_sR, ln_sL, ln_sD, ↓reduceIte, c8_n, c8_1, c8_2, c8_3, c8_4, Nat.reduceAdd, k_s S, k_land S, k_nodes S, k_hear S, k_routes S, k_traffic S, k_market S, g_cnt S, r_land S, r_routes S, r_traffic S, r_market S, r_nodes S, r_hear S, r_rland S, r_tland S, r_troutes S, l_nodes S hi8, l_hear S hi8, r_node S hi8, r_queue S hi8, r_set S hi8, r_frames S hi8, r_bits S hi8, k_node S hi8, k_queue S hi8, k_frames S hi8, k_set S hi8, k_bits S hi8, ii_nat (lt31 hi8), q_checkNode _ S hi, q_checkNode _ S hj, hne, q_isWithin, w1, Bool.true_eq_false, s2, r1, hr]
    · generalize hg : sI (sI (sI (sI (sI (sI h (8 + 9 * i + f) 0 (ii i)) (8 + 9 * i + f) 1 (ii j)) (8 + 9 * i + f) 2 (ii len)) (8 + 9 * i + f) 3 (ii s)) (8 + 9 * i + f) 4 0) (6 + 9 * i) 1 (ii (q + 1)) = g at r1
      have eg : ∀ a k, a ≠ 8 + 9 * i + f → ¬ (a = 6 + 9 * i ∧ k = 1) → gI g a k = gI h a k := fun a k p1 p2 => by rw [← hg]; simp only [gI_sI]; rw [if_neg (by omega), if_neg (by omega), if_neg (by omega), if_neg (by omega), if_neg (by omega), if_neg (by omega)]
      have Sg : Str n g := by rw [← hg]; exact (((((S.sI _ (by omega)).sI _ (by omega)).sI _ (by omega)).sI _ (by omega)).sI _ (by omega)).sI _ (by omega)
      have Fg : Fr (fun a k => a = 8 + 9 * i + f ∨ (a = 6 + 9 * i ∧ k = 1)) nW nW h g := by
        rw [← hg]
        exact ((((((Fr.refl h).sI _ (by omega)).sI _ (by omega)).sI _ (by omega)).sI _ (by omega)).sI _ (by omega)).sI _ (by omega)
      generalize hu : sI g (5 + 9 * i) 14 (ii (s + 1)) = u
      have Su : Str n u := by rw [← hu]; exact Sg.sI _ (by omega)
      have Fu : Fr (fun a k => a = 8 + 9 * i + f ∨ (a = 6 + 9 * i ∧ k = 1) ∨ (a = 5 + 9 * i ∧ k = 14)) nW nW h u := by
        rw [← hu]
        exact (Fg.mono (fun a k w => by omega) (fun _ _ w => w) (fun _ _ w => w)).sI _ (by omega)
      have eu : ∀ a k, a ≠ 8 + 9 * i + f → ¬ (a = 6 + 9 * i ∧ k = 1) → ¬ (a = 5 + 9 * i ∧ k = 14) → gI u a k = gI h a k := fun a k p1 p2 p3 => Fu.1 a k (by omega)
      have u14 : gI u (5 + 9 * i) 14 = ii (s + 1) := by rw [← hu, gI_sI, if_pos ⟨rfl, rfl⟩]
      have uq : gI u (6 + 9 * i) 1 = ii (q + 1) := by rw [← hu, gI_sI, if_neg (by omega), ← hg, gI_sI, if_pos ⟨rfl, rfl⟩]
      have sent : ∀ x z, x < n → gI h (5 + 9 * x) 14 = ii z → z ≤ 512 → ∃ z', gI u (5 + 9 * x) 14 = ii z' ∧ z ≤ z' ∧ z' ≤ 512 := fun x z hx hz h5 => by
        by_cases e : x = i
        · subst e
          have : z = s := by
            have := hz.symm.trans s2
            rwa [ii_inj (by omega) (by omega)] at this
          exact ⟨s + 1, u14, by omega, by omega⟩
        · exact ⟨z, by rw [eu _ _ (by omega) (by omega) (by omega)]; exact hz, Nat.le_refl _, h5⟩
      have Vn : Vf n u (8 + 9 * i + f) := by
        refine ⟨i, j, len, s, s + 1, ?_, hi, ?_, hj, ?_, hl1, hl, ?_, u14, by omega, by omega⟩
        · rw [← hu, gI_sI, if_neg (by omega), ← hg]; simp only [gI_sI]; rw [if_neg (by omega), if_neg (by omega), if_neg (by omega), if_neg (by omega), if_neg (by omega), if_pos (by simp)]
        · rw [← hu, gI_sI, if_neg (by omega), ← hg]; simp only [gI_sI]; rw [if_neg (by omega), if_neg (by omega), if_neg (by omega), if_neg (by omega), if_pos (by simp)]
        · rw [← hu, gI_sI, if_neg (by omega), ← hg]; simp only [gI_sI]; rw [if_neg (by omega), if_neg (by omega), if_neg (by omega), if_pos (by simp)]
        · rw [← hu, gI_sI, if_neg (by omega), ← hg]; simp only [gI_sI]; rw [if_neg (by omega), if_neg (by omega), if_pos (by simp)]
      have Nu : ∀ x, x < n → NI n u x := fun x hx => by
        obtain ⟨⟨qx, y1, y2, y3⟩, W2, W3, W4⟩ := N x hx
        have old : ∀ k, k < qx → ∃ f2, f2 < 4 ∧ gR u (7 + 9 * x) k = some (8 + 9 * x + f2) ∧ Vf n u (8 + 9 * x + f2) := fun k hk => by
          obtain ⟨f2, z1, z2, z3⟩ := y3 k hk
          refine ⟨f2, z1, by rw [Fu.2.1 _ _ (fun w => w)]; exact z2, ?_⟩
          by_cases e : 8 + 9 * x + f2 = 8 + 9 * i + f
          · rw [e]; exact Vn
          · exact z3.grow (fun k => eu _ _ (by omega) (by omega) (by omega)) sent
        by_cases e : x = i
        · subst e
          have : qx = q := by
            have := y2.symm.trans q2
            rwa [ii_inj (by omega) (by omega)] at this
          subst this
          refine ⟨⟨qx + 1, by omega, uq, fun k hk => ?_⟩, by rw [eu _ _ (by omega) (by omega) (by omega)]; exact W2, ?_, ?_⟩
          · by_cases ek : k = qx
            · subst ek
              exact ⟨f, f1, by rw [Fu.2.1 _ _ (fun w => w)]; exact f2, Vn⟩
            · exact old k (by omega)
          · obtain ⟨tc, t1, t2, t3⟩ := W3
            refine ⟨tc, t1, by rw [eu _ _ (by omega) (by omega) (by omega)]; exact t2, fun _ => ?_⟩
            rw [uq, show (0 : Int32) = ii 0 from rfl, ii_inj (by omega) (by omega)]
            omega
          · obtain ⟨z, z1, z2, z3⟩ := W4
            have : z = s := by
              have := z2.symm.trans s2
              rwa [ii_inj (by omega) (by omega)] at this
            subst this
            exact ⟨z + 1, by omega, u14, fun k p1 p2 => by unfold mb; rw [Fu.2.2.1 _ _ (fun w => w)]; exact z3 k (by omega) p2⟩
        · refine ⟨⟨qx, y1, by rw [eu _ _ (by omega) (by omega) (by omega)]; exact y2, old⟩, by rw [eu _ _ (by omega) (by omega) (by omega)]; exact W2, by rw [eu _ _ (by omega) (by omega) (by omega), eu _ _ (by omega) (by omega) (by omega)]; exact W3, ?_⟩
          obtain ⟨z, z1, z2, z3⟩ := W4
          exact ⟨z, z1, by rw [eu _ _ (by omega) (by omega) (by omega)]; exact z2, fun k p1 p2 => by unfold mb; rw [Fu.2.2.1 _ _ (fun w => w)]; exact z3 k p1 p2⟩
      have Au : AI n u := ⟨Su, SI9.fr Fu (fun a k w => by unfold wTr; omega) (fun a k w => w.elim), Nu, ⟨lk, l1, by rw [eu _ _ (by omega) (by omega) (by omega)]; exact l2⟩, D.fr (eu _ _ (by omega) (by omega) (by omega)) (fun x k hx => Fu.2.2.1 _ _ (fun w => w))⟩
      have eN : ∀ x f', x < n → 10 ≤ f' → f' ≤ 13 → gI u (5 + 9 * x) f' = gI h (5 + 9 * x) f' := fun x f' hx p1 p2 => eu _ _ (by omega) (by omega) (by omega)
      refine ⟨.inl (some (.inl (ii s))), u, fun Q => ?_, Or.inl ⟨_, rfl⟩, B, Nat.le_refl _, by omega, ⟨⟨Au, c, c1, by rw [eu _ _ (by omega) (by omega) (by omega)]; exact c2, M.of fun a k p1 p2 => eu _ _ (by omega) (by omega) (by omega)⟩, C.fr eN, fun x hx => ?_, by rw [eu _ _ (by omega) (by omega) (by omega)]; exact sl⟩, MC.refl C hB eN, MD.fr Fu, KP.fr Fu (fun a k w => by omega) (fun a k w => w.elim), NF.fr Fu (fun a k w => by omega) (fun _ _ w => w.elim)⟩
      · simp only [↓e_S_send_0, ↓e_S_send_1, ↓e_S_send_2, ↓e_S_send_5, ↓e_S_send_6, ↓e_S_send_7, ↓e_S_send_10, ↓e_S_send_11, ↓e_S_send_12, ↓e_S_send_15, ↓e_S_send_16, ↓e_S_send_17, ↓e_S_send_18, ↓e_S_send_21, ↓e_S_send_24, ↓e_S_send_34, ↓e_S_send_35, ↓e_S_send_38, ↓e_S_send_41, ↓e_S_send_42, ↓e_S_send_43, ↓e_S_send_45, ↓e_S_send_47, ↓e_S_send_50, ↓e_S_send_52, ↓e_S_send_54, ↓e_S_send_57, ↓e_S_send_58, ↓e_S_send_59, ↓e_S_send_60, ↓e_S_send_62, ↓e_S_send_63, ↓e_S_send_66, ↓e_S_send_69, ↓e_S_send_79, ↓e_S_send_81, ↓e_S_send_82, ↓e_S_send_85, ↓e_S_send_86, ↓e_S_send_87, ↓e_S_send_90, ↓e_S_send_92, not_true_eq_false, not_false_eq_true, one0, true_or, or_true, eq_self, bI_z, bI_nz, bI_o, b_ft, bI_1, bI_0, ↓kC_l, ↓kC_r, Option.toList_some, Option.toList_none, List.cons_append, List.nil_append, s1_0, s1_1i, s1_1r, s1_1w, s1_1n, s1_s, s2_0, s2_1i, s2_1r, s2_1w, s2_1n, s2_s, gI_sI, gI_sR, gI_sL, gI_sD, gR_sI, gR_sR, gR_sL, gR_sD, gL_sI, gL_sR, gL_sL, gL_sD, gD_sI, gD_sR, gD_sL, gD_sD, isK_sI, isK_sR, isK_sL, isK_sD, inL_sI, inL_sR, inL_sL, inL_sD, nx_sI, nx_sR, nx_sL, nx_sD, kd_sI, kd_sR, kd_sL, kd_sD, ln_sI, ln_sR, ln_sL, ln_sD, ↓reduceIte, c8_n, c8_1, c8_2, c8_3, c8_4, Nat.reduceAdd, k_s S, k_land S, k_nodes S, k_hear S, k_routes S, k_traffic S, k_market S, g_cnt S, r_land S, r_routes S, r_traffic S, r_market S, r_nodes S, r_hear S, r_rland S, r_tland S, r_troutes S, l_nodes S hi8, l_hear S hi8, r_node S hi8, r_queue S hi8, r_set S hi8, r_frames S hi8, r_bits S hi8, k_node S hi8, k_queue S hi8, k_frames S hi8, k_set S hi8, k_bits S hi8, ii_nat (lt31 hi8), q_checkNode _ S hi, q_checkNode _ S hj, hne, q_isWithin, w1, Bool.true_eq_false, s2, r1, l_nodes Sg hi8, l_hear Sg hi8, r_node Sg hi8, r_queue Sg hi8, r_set Sg hi8, r_frames Sg hi8, r_bits Sg hi8, k_node Sg hi8, k_queue Sg hi8, k_frames Sg hi8, k_set Sg hi8, k_bits Sg hi8, ii_nat (lt31 hi8), eg (5 + 9 * i) 14 (by omega) (by omega), ii_succ, hu]
      · by_cases e : x = i
        · subst e; exact ⟨s + 1, by omega, u14⟩
        · obtain ⟨z, z1, z2⟩ := V x hx
          exact ⟨z, by omega, by rw [eu _ _ (by omega) (by omega) (by omega)]; exact z2⟩
end SE
