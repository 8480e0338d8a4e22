/-! prow: row on both sides -/
theorem Sb.sI {h : Hp} {q c a k : Nat} {v : Int32} (S : Sb h q c) (h1 : ¬ a = q) (h2 : ¬ a = q + 1) : Sb (sI h a k v) q c := by
  obtain ⟨s1, s2, s3, s4, s5, s6, s7⟩ := S
  exact ⟨s1, s2, by rw [gI_sI, if_neg (by omega)]; exact s3, by rw [gI_sI, if_neg (by omega)]; exact s4, s5, s6, fun j hj => by rw [gI_sI, if_neg (by omega)]; exact s7 j hj⟩
section ROW
variable {τ : Nat → Nat} {n A c B T : Nat} {K : Int32} {p : Nat → Nat} {h : Hp}
theorem Jk.lo {h' : Hp} (F : Fs τ h) (x : Lo9 (nx h) h h') : Jk τ h h' := ⟨⟨fun z hz => ⟨rfl, (x.2.1 z hz).1, (x.2.1 z hz).2⟩, x.2.2⟩, fun z hz k => x.1 z k (F.lt hz)⟩
theorem q_sign (S : Str n h) {i : Nat} (hi : i < 8) : ∃ x, Chr x ∧ ∀ Q, WP Gm j_Node_sign 0 [some (.inr (.inl (some (5 + 9 * i))))] [] h Q = Q (.inl (some (.inl x))) h := by
  have t1 := (show Chr 84 from Or.inl rfl).f.2.2.2
  have t2 := (show Chr 119 from Or.inr (Or.inl rfl)).f.2.2.2
  have t3 := (show Chr 46 from Or.inr (Or.inr (Or.inl rfl))).f.2.2.2
  have t4 := (show Chr 113 from Or.inr (Or.inr (Or.inr rfl))).f.2.2.2
  by_cases h7 : 0 < gI h (5 + 9 * i) 7
  · refine ⟨84, Or.inl rfl, fun Q => ?_⟩
    simp only [↓e_Node_sign_0, ↓e_Node_sign_1, ↓e_Node_sign_4, ↓e_Node_sign_7, ↓e_Node_sign_9, ↓e_Node_sign_10, ↓e_Node_sign_11, ↓e_Node_sign_14, ↓e_Node_sign_17, ↓e_Node_sign_19, ↓e_Node_sign_20, ↓e_Node_sign_21, ↓e_Node_sign_24, ↓e_Node_sign_27, ↓e_Node_sign_30, ↓e_Node_sign_32, ↓e_Node_sign_35, ↓e_Node_sign_37, not_true_eq_false, not_false_eq_true, one0, true_or, or_true, eq_self, bI_z, bI_nz, bI_o, b_ft, bI_1, bI_0, ↓kC_l, ↓kC_r, Option.toList_some, Option.toList_none, List.cons_append, List.nil_append, s1_0, s1_1i, s1_1r, s1_1w, s1_1n, s1_s, s2_0, s2_1i, s2_1r, s2_1w, s2_1n, s2_s, gI_sI, gI_sR, gI_sL, gI_sD, gR_sI, gR_sR, gR_sL, gR_sD, gL_sI, gL_sR, gL_sL, gL_sD, gD_sI, gD_sR, gD_sL, gD_sD, isK_sI, isK_sR, isK_sL, isK_sD, inL_sI, inL_sR, inL_sL, inL_sD, nx_sI, nx_sR, nx_sL, nx_sD, kd_sI, kd_sR, kd_sL, kd_sD, ln_sI, ln_sR, ln_sL, ln_sD, ↓reduceIte, c8_n, c8_1, c8_2, c8_3, c8_4, Nat.reduceAdd, l_nodes S hi, l_hear S hi, r_node S hi, r_queue S hi, r_set S hi, r_frames S hi, r_bits S hi, k_node S hi, k_queue S hi, k_frames S hi, k_set S hi, k_bits S hi, ii_nat (lt31 hi), q_isSending _ S hi, h7, decide_true, t1]
  · by_cases h5 : gI h (5 + 9 * i) 5 ≤ 0
    · by_cases h1 : gI h (6 + 9 * i) 1 ≤ 0
      · refine ⟨46, Or.inr (Or.inr (Or.inl rfl)), fun Q => ?_⟩
        simp only [↓e_Node_sign_0, ↓e_Node_sign_1, ↓e_Node_sign_4, ↓e_Node_sign_7, ↓e_Node_sign_9, ↓e_Node_sign_10, ↓e_Node_sign_11, ↓e_Node_sign_14, ↓e_Node_sign_17, ↓e_Node_sign_19, ↓e_Node_sign_20, ↓e_Node_sign_21, ↓e_Node_sign_24, ↓e_Node_sign_27, ↓e_Node_sign_30, ↓e_Node_sign_32, ↓e_Node_sign_35, ↓e_Node_sign_37, not_true_eq_false, not_false_eq_true, one0, true_or, or_true, eq_self, bI_z, bI_nz, bI_o, b_ft, bI_1, bI_0, ↓kC_l, ↓kC_r, Option.toList_some, Option.toList_none, List.cons_append, List.nil_append, s1_0, s1_1i, s1_1r, s1_1w, s1_1n, s1_s, s2_0, s2_1i, s2_1r, s2_1w, s2_1n, s2_s, gI_sI, gI_sR, gI_sL, gI_sD, gR_sI, gR_sR, gR_sL, gR_sD, gL_sI, gL_sR, gL_sL, gL_sD, gD_sI, gD_sR, gD_sL, gD_sD, isK_sI, isK_sR, isK_sL, isK_sD, inL_sI, inL_sR, inL_sL, inL_sD, nx_sI, nx_sR, nx_sL, nx_sD, kd_sI, kd_sR, kd_sL, kd_sD, ln_sI, ln_sR, ln_sL, ln_sD, ↓reduceIte, c8_n, c8_1, c8_2, c8_3, c8_4, Nat.reduceAdd, l_nodes S hi, l_hear S hi, r_node S hi, r_queue S hi, r_set S hi, r_frames S hi, r_bits S hi, k_node S hi, k_queue S hi, k_frames S hi, k_set S hi, k_bits S hi, ii_nat (lt31 hi), q_isSending _ S hi, h7, decide_false, h5, h1, t3]
      · refine ⟨113, Or.inr (Or.inr (Or.inr rfl)), fun Q => ?_⟩
        simp only [↓e_Node_sign_0, ↓e_Node_sign_1, ↓e_Node_sign_4, ↓e_Node_sign_7, ↓e_Node_sign_9, ↓e_Node_sign_10, ↓e_Node_sign_11, ↓e_Node_sign_14, ↓e_Node_sign_17, ↓e_Node_sign_19, ↓e_Node_sign_20, ↓e_Node_sign_21, ↓e_Node_sign_24, ↓e_Node_sign_27, ↓e_Node_sign_30, ↓e_Node_sign_32, ↓e_Node_sign_35, ↓e_Node_sign_37, not_true_eq_false, not_false_eq_true, one0, true_or, or_true, eq_self, bI_z, bI_nz, bI_o, b_ft, bI_1, bI_0, ↓kC_l, ↓kC_r, Option.toList_some, Option.toList_none, List.cons_append, List.nil_append, s1_0, s1_1i, s1_1r, s1_1w, s1_1n, s1_s, s2_0, s2_1i, s2_1r, s2_1w, s2_1n, s2_s, gI_sI, gI_sR, gI_sL, gI_sD, gR_sI, gR_sR, gR_sL, gR_sD, gL_sI, gL_sR, gL_sL, gL_sD, gD_sI, gD_sR, gD_sL, gD_sD, isK_sI, isK_sR, isK_sL, isK_sD, inL_sI, inL_sR, inL_sL, inL_sD, nx_sI, nx_sR, nx_sL, nx_sD, kd_sI, kd_sR, kd_sL, kd_sD, ln_sI, ln_sR, ln_sL, ln_sD, ↓reduceIte, c8_n, c8_1, c8_2, c8_3, c8_4, Nat.reduceAdd, l_nodes S hi, l_hear S hi, r_node S hi, r_queue S hi, r_set S hi, r_frames S hi, r_bits S hi, k_node S hi, k_queue S hi, k_frames S hi, k_set S hi, k_bits S hi, ii_nat (lt31 hi), q_isSending _ S hi, h7, decide_false, h5, h1, t4]
    · refine ⟨119, Or.inr (Or.inl rfl), fun Q => ?_⟩
      simp only [↓e_Node_sign_0, ↓e_Node_sign_1, ↓e_Node_sign_4, ↓e_Node_sign_7, ↓e_Node_sign_9, ↓e_Node_sign_10, ↓e_Node_sign_11, ↓e_Node_sign_14, ↓e_Node_sign_17, ↓e_Node_sign_19, ↓e_Node_sign_20, ↓e_Node_sign_21, ↓e_Node_sign_24, ↓e_Node_sign_27, ↓e_Node_sign_30, ↓e_Node_sign_32, ↓e_Node_sign_35, ↓e_Node_sign_37, not_true_eq_false, not_false_eq_true, one0, true_or, or_true, eq_self, bI_z, bI_nz, bI_o, b_ft, bI_1, bI_0, ↓kC_l, ↓kC_r, Option.toList_some, Option.toList_none, List.cons_append, List.nil_append, s1_0, s1_1i, s1_1r, s1_1w, s1_1n, s1_s, s2_0, s2_1i, s2_1r, s2_1w, s2_1n, s2_s, gI_sI, gI_sR, gI_sL, gI_sD, gR_sI, gR_sR, gR_sL, gR_sD, gL_sI, gL_sR, gL_sL, gL_sD, gD_sI, gD_sR, gD_sL, gD_sD, isK_sI, isK_sR, isK_sL, isK_sD, inL_sI, inL_sR, inL_sL, inL_sD, nx_sI, nx_sR, nx_sL, nx_sD, kd_sI, kd_sR, kd_sL, kd_sD, ln_sI, ln_sR, ln_sL, ln_sD, ↓reduceIte, c8_n, c8_1, c8_2, c8_3, c8_4, Nat.reduceAdd, l_nodes S hi, l_hear S hi, r_node S hi, r_queue S hi, r_set S hi, r_frames S hi, r_bits S hi, k_node S hi, k_queue S hi, k_frames S hi, k_set S hi, k_bits S hi, ii_nat (lt31 hi), q_isSending _ S hi, h7, decide_false, h5, t2]
theorem s_row (A1 : AI n h) (hn1 : nx h + 20 ≤ 580300) (hs1 : sc h + 300 ≤ 5700000) : ∃ (r : Nat) (g : Hp), (∀ Q, WP Gm j_S_row 0 [some (.inr (.inl (some 1))), none, none] [] h Q = Q (.inl (some (.inr (.inl (some r))))) g) ∧ Ex h g ∧ nx g ≤ nx h + 4 ∧ sc g ≤ sc h + 40 := by
  have S := A1.1
  have hn := n8 S
  have h121 : 121 ≤ nx h := S.1.1
  generalize hq : nx h = q at *
  have hr : okR cM sM h 1 4 = true := ok_big (by omega) (by omega)
  generalize hg0 : hN h kc_StringBuilder 0 4 = g0
  have k0 : isK g0 q kc_StringBuilder = true := by rw [← hg0, ← hq]; exact isK_new
  have n0 : nx g0 = q + 1 := by rw [← hg0, nx_hN, hq]
  have s0 : sc g0 = sc h + 4 := by rw [← hg0]; rfl
  have l0 : Lo9 q h g0 := by rw [← hg0]; exact (Lo9.refl q h).hN (by omega)
  obtain ⟨g1, a1, a2, a3, a4, a5⟩ := q_sbInit k0 n0 (by rw [← hg0, gI_hN, if_pos hq.symm]) (by omega) (by omega)
  obtain ⟨g, e1, Sg, Lg, ng, sg⟩ := loopR (fun Q k (g : Hp) => WP Gm j_S_row 10 [some (.inr (.inl (some 1))), some (.inr (.inl (some q))), some (.inl (ii k))] [] g Q)
    (fun k g => Sb g q k ∧ Lo9 q h g ∧ nx g = q + 2 ∧ sc g = sc h + 20) n
    (fun k g hk hI => by
      obtain ⟨Sg, Lg, ng, sg⟩ := hI
      have hk8 := lt_8 hn hk
      have Ag9 : AI n g := A1.ex (by rw [← hq] at Lg; exact Lg)
      have Sg' := Ag9.1
      obtain ⟨x, x1, x2⟩ := q_sign Sg' hk8
      obtain ⟨y1, y2⟩ := q_sbAppend Sg (show k < 9 by omega) x1
      refine ⟨_, fun Q => ?_, y2, (Lg.sI (Nat.le_refl _)).sI (by omega), ng, sg⟩
      rw [e_S_row_10]
      simp only [↓e_S_row_0, ↓e_S_row_3, ↓e_S_row_4, ↓e_S_row_7, ↓e_S_row_8, ↓e_S_row_9, ↓e_S_row_11, ↓e_S_row_12, ↓e_S_row_15, ↓e_S_row_18, ↓e_S_row_21, ↓e_S_row_22, ↓e_S_row_23, ↓e_S_row_26, ↓e_S_row_29, ↓e_S_row_30, ↓e_S_row_31, ↓e_S_row_34, ↓e_S_row_37, ↓e_S_row_38, ↓e_S_row_41, ↓e_S_row_44, ↓e_S_row_45, ↓e_S_row_48, ↓f_S_row_34, not_true_eq_false, not_false_eq_true, one0, true_or, or_true, eq_self, bI_z, bI_nz, bI_o, b_ft, bI_1, bI_0, ↓kC_l, ↓kC_r, Option.toList_some, Option.toList_none, List.cons_append, List.nil_append, s1_0, s1_1i, s1_1r, s1_1w, s1_1n, s1_s, s2_0, s2_1i, s2_1r, s2_1w, s2_1n, s2_s, gI_sI, gI_sR, gI_sL, gI_sD, gR_sI, gR_sR, gR_sL, gR_sD, gL_sI, gL_sR, gL_sL, gL_sD, gD_sI, gD_sR, gD_sL, gD_sD, isK_sI, isK_sR, isK_sL, isK_sD, inL_sI, inL_sR, inL_sL, inL_sD, nx_sI, nx_sR, nx_sL, nx_sD, kd_sI, kd_sR, kd_sL, kd_sD, ln_sI, ln_sR, ln_sL, ln_sD, ↓reduceIte, c8_n, c8_1, c8_2, c8_3, c8_4, Nat.reduceAdd, k_s Sg', k_land Sg', k_nodes Sg', k_hear Sg', k_routes Sg', k_traffic Sg', k_market Sg', g_cnt Sg', r_land Sg', r_routes Sg', r_traffic Sg', r_market Sg', r_nodes Sg', r_hear Sg', r_rland Sg', r_tland Sg', r_troutes Sg', l_nodes Sg' hk8, l_hear Sg' hk8, r_node Sg' hk8, r_queue Sg' hk8, r_set Sg' hk8, r_frames Sg' hk8, r_bits Sg' hk8, k_node Sg' hk8, k_queue Sg' hk8, k_frames Sg' hk8, k_set Sg' hk8, k_bits Sg' hk8, ii_nat (lt31 hk8), le_f hn hk, x2, Sg.1, y1, ii_succ]) n 0 g1 (by omega) ⟨a2, l0.trans a3, a4, by omega⟩
  have Ag9 : AI n g := A1.ex (by rw [← hq] at Lg; exact Lg)
  have Sg' := Ag9.1
  obtain ⟨r, u, b1, b2, b3, b4⟩ := q_sbString Sg (show n < 10 by omega) (by omega) (by omega)
  refine ⟨r, u, fun Q => ?_, ?_, by omega, by omega⟩
  · have pre : WP Gm j_S_row 0 [some (.inr (.inl (some 1))), none, none] [] h Q = WP Gm j_S_row 10 [some (.inr (.inl (some 1))), some (.inr (.inl (some q))), some (.inl (ii 0))] [] g1 Q := by
      simp only [↓e_S_row_0, ↓e_S_row_3, ↓e_S_row_4, ↓e_S_row_7, ↓e_S_row_8, ↓e_S_row_9, ↓e_S_row_11, ↓e_S_row_12, ↓e_S_row_15, ↓e_S_row_18, ↓e_S_row_21, ↓e_S_row_22, ↓e_S_row_23, ↓e_S_row_26, ↓e_S_row_29, ↓e_S_row_30, ↓e_S_row_31, ↓e_S_row_34, ↓e_S_row_37, ↓e_S_row_38, ↓e_S_row_41, ↓e_S_row_44, ↓e_S_row_45, ↓e_S_row_48, not_true_eq_false, not_false_eq_true, one0, true_or, or_true, eq_self, bI_z, bI_nz, bI_o, b_ft, bI_1, bI_0, ↓kC_l, ↓kC_r, Option.toList_some, Option.toList_none, List.cons_append, List.nil_append, s1_0, s1_1i, s1_1r, s1_1w, s1_1n, s1_s, s2_0, s2_1i, s2_1r, s2_1w, s2_1n, s2_s, gI_sI, gI_sR, gI_sL, gI_sD, gR_sI, gR_sR, gR_sL, gR_sD, gL_sI, gL_sR, gL_sL, gL_sD, gD_sI, gD_sR, gD_sL, gD_sD, isK_sI, isK_sR, isK_sL, isK_sD, inL_sI, inL_sR, inL_sL, inL_sD, nx_sI, nx_sR, nx_sL, nx_sD, kd_sI, kd_sR, kd_sL, kd_sD, ln_sI, ln_sR, ln_sL, ln_sD, ↓reduceIte, c8_n, c8_1, c8_2, c8_3, c8_4, Nat.reduceAdd, hr, hq, hg0, k0, a1]
      rfl
    rw [pre, e1 Q, e_S_row_10]
    simp only [↓e_S_row_0, ↓e_S_row_3, ↓e_S_row_4, ↓e_S_row_7, ↓e_S_row_8, ↓e_S_row_9, ↓e_S_row_11, ↓e_S_row_12, ↓e_S_row_15, ↓e_S_row_18, ↓e_S_row_21, ↓e_S_row_22, ↓e_S_row_23, ↓e_S_row_26, ↓e_S_row_29, ↓e_S_row_30, ↓e_S_row_31, ↓e_S_row_34, ↓e_S_row_37, ↓e_S_row_38, ↓e_S_row_41, ↓e_S_row_44, ↓e_S_row_45, ↓e_S_row_48, not_true_eq_false, not_false_eq_true, one0, true_or, or_true, eq_self, bI_z, bI_nz, bI_o, b_ft, bI_1, bI_0, ↓kC_l, ↓kC_r, Option.toList_some, Option.toList_none, List.cons_append, List.nil_append, s1_0, s1_1i, s1_1r, s1_1w, s1_1n, s1_s, s2_0, s2_1i, s2_1r, s2_1w, s2_1n, s2_s, gI_sI, gI_sR, gI_sL, gI_sD, gR_sI, gR_sR, gR_sL, gR_sD, gL_sI, gL_sR, gL_sL, gL_sD, gD_sI, gD_sR, gD_sL, gD_sD, isK_sI, isK_sR, isK_sL, isK_sD, inL_sI, inL_sR, inL_sL, inL_sD, nx_sI, nx_sR, nx_sL, nx_sD, kd_sI, kd_sR, kd_sL, kd_sD, ln_sI, ln_sR, ln_sL, ln_sD, ↓reduceIte, c8_n, c8_1, c8_2, c8_3, c8_4, Nat.reduceAdd, k_s Sg', k_land Sg', k_nodes Sg', k_hear Sg', k_routes Sg', k_traffic Sg', k_market Sg', g_cnt Sg', r_land Sg', r_routes Sg', r_traffic Sg', r_market Sg', r_nodes Sg', r_hear Sg', r_rland Sg', r_tland Sg', r_troutes Sg', le_t hn, Sg.1, b1]
  · have b2' : Lo9 q g u := ⟨fun a k ha => b2.1 a k (by omega), fun a ha => b2.2.1 a (by omega), b2.2.2⟩
    have := Lg.trans b2'
    rw [← hq] at this
    exact this
theorem q_mrow (R : RM τ n p (8 * B) c B K h) (hn1 : nx h + 1000 ≤ 580300) (hs1 : sc h + 7000 ≤ 5700000) :
    ∃ (r : Nat) (h' : Hp), (∀ Q, WP Gm j_Mdl_row 0 [some (.inr (.inl (some 121))), none, none, none] [] h Q = Q (.inl (some (.inr (.inl (some r))))) h') ∧ Mo τ n c B K h h' := by
  have hn := R.n8
  have R0 : RM τ n p (8 * B) c B K (sI h 121 0 0) := R.th
  have Sh := R.sth 0
  generalize hh0 : sI h 121 0 0 = h0 at *
  have nn0 : nx h0 = nx h := by rw [← hh0]; rfl
  have ss0 : sc h0 = sc h := by rw [← hh0]; rfl
  have F0 := R0.F
  have f125 := F0.1
  generalize hq : nx h0 = q at *
  have hr : okR cM sM h0 1 4 = true := ok_big (by omega) (by omega)
  generalize hg0 : hN h0 kc_StringBuilder 0 4 = g0
  have k0 : isK g0 q kc_StringBuilder = true := by rw [← hg0, ← hq]; exact isK_new
  have n0 : nx g0 = q + 1 := by rw [← hg0, nx_hN, hq]
  have s0 : sc g0 = sc h0 + 4 := by rw [← hg0]; rfl
  have l0 : Lo9 q h0 g0 := by rw [← hg0]; exact (Lo9.refl q h0).hN (by omega)
  obtain ⟨g1, a1, a2, a3, a4, a5⟩ := q_sbInit k0 n0 (by rw [← hg0, gI_hN, if_pos hq.symm]) (by omega) (by omega)
  have jk : ∀ {g : Hp}, Lo9 q h0 g → Jk τ h0 g := fun L => Jk.lo F0 (by rw [hq]; exact L)
  have l1 : Lo9 q h0 g1 := l0.trans a3
  have R1 := R0.sw (jk l1).sw
  obtain ⟨c0, -, L⟩ := R0.nl
  have hl : ∀ j, ¬ OW (τ 122) j := fun j => by rw [R.t2]; unfold OW; omega
  have Lst0 : ∀ {g : Hp}, Lo9 q h0 g → Lst τ g 122 6 (fun j f => f = p j) n c0 := fun L' => L.sw (jk L').sw hl (by omega)
  obtain ⟨b, Lb, -⟩ := Lst0 l1
  have hr4 : okR cM sM g1 1 4 = true := ok_big (by omega) (by omega)
  have e122 := q_liter (h := g1) (Q := fun _ _ => True) Lb hr4
  generalize hg2 : sI (sI (sR (hN g1 kc_Itr 0 4) (nx g1) 3 (some 122)) (nx g1) 1 (-1)) (nx g1) 2 (gI g1 122 0) = g2
  have it1 : ∀ Q, WP Gm j_ArrayList_iterator 0 [some (.inr (.inl (some 122)))] [] g1 Q = Q (.inl (some (.inr (.inl (some (q + 2)))))) g2 := fun Q => by
    rw [q_liter Q Lb hr4, hg2, a4]
  have S2 : Sb g2 q 0 := by
    obtain ⟨s1, s2, s3, s4, s5, s6, s7⟩ := a2
    have t1 := isK_lt s1
    have t5 := isK_lt s5
    refine ⟨?_, ?_, ?_, ?_, ?_, ?_, fun j hj => absurd hj (by omega)⟩
    · rw [← hg2, isK_sI, isK_sI, isK_sR, isK_hN t1]; exact s1
    · rw [← hg2, gR_sI, gR_sI, gR_sR, if_neg (by omega), gR_hN, if_neg (by omega)]; exact s2
    · rw [← hg2, gI_sI, if_neg (by omega), gI_sI, if_neg (by omega), gI_sR, gI_hN, if_neg (by omega)]; exact s3
    · rw [← hg2, gI_sI, if_neg (by omega), gI_sI, if_neg (by omega), gI_sR, gI_hN, if_neg (by omega)]; exact s4
    · rw [← hg2, isK_sI, isK_sI, isK_sR, isK_hN t5]; exact s5
    · rw [← hg2, ln_sI, ln_sI, ln_sR, ln_hN, if_neg (by omega)]; exact s6
  have I2 : It g2 (q + 2) 122 0 := by
    rw [← a4, ← hg2]
    refine ⟨isK_new, ?_, ?_, ?_, by omega⟩
    · rw [gR_sI, gR_sI, gR_sR, if_pos ⟨rfl, rfl⟩]
    · rw [gI_sI, if_neg (by omega), gI_sI, if_neg (by omega), gI_sR, gI_hN, if_pos rfl]; rfl
    · rw [gI_sI, if_pos ⟨rfl, rfl⟩, gI_sI, if_neg (by omega), gI_sI, if_neg (by omega), gI_sR, gI_hN, if_neg (by omega)]
  have l2 : Lo9 q h0 g2 := by rw [← hg2]; exact (((l1.hN (by omega)).sR (by omega)).sI (by omega)).sI (by omega)
  have n2 : nx g2 = q + 3 := by rw [← hg2]; show nx g1 + 1 = _; omega
  have s2 : sc g2 = sc h0 + 24 := by rw [← hg2]; show sc g1 + 4 = _; omega
  obtain ⟨⟨g, v3⟩, e1, Sg, Ig, Lg, ng, sg⟩ := loopR (fun Q k (x : Hp × Option MV) => WP Gm j_Mdl_row 21 [some (.inr (.inl (some 121))), some (.inr (.inl (some q))), some (.inr (.inl (some (q + 2)))), x.2] [] x.1 Q)
    (fun k x => Sb x.1 q k ∧ It x.1 (q + 2) 122 k ∧ Lo9 q h0 x.1 ∧ nx x.1 = q + 3 ∧ sc x.1 = sc h0 + 24) n
    (fun k x hk hI => by
      obtain ⟨g, v3⟩ := x
      dsimp only at hI ⊢
      obtain ⟨Sg, Ig, Lg, ng, sg⟩ := hI
      have Lsg := Lst0 Lg
      obtain ⟨b, Lb, dd, he⟩ := id Lsg
      obtain ⟨f, f1, f2, f3⟩ := he k hk
      subst f3
      have hx9 : ∀ Q, WP Gm j_Itr_next 0 [some (.inr (.inl (some (q + 2)))), none, none] [] g Q = Q (.inl (some (.inr (.inl (some (p k)))))) (sI (sI g (q + 2) 0 (ii (k + 1))) (q + 2) 1 (ii k)) := fun Q => by rw [q_next Q Lb Ig hk, f1]
      generalize hu : sI (sI g (q + 2) 0 (ii (k + 1))) (q + 2) 1 (ii k) = u at hx9
      have Iu : It u (q + 2) 122 (k + 1) := by rw [← hu]; exact Ig.next (isK_spec Lb.k).2
      have Su : Sb u q k := by rw [← hu]; exact (Sg.sI (by omega) (by omega)).sI (by omega) (by omega)
      have Lu : Lo9 q h0 u := by rw [← hu]; exact (Lg.sI (by omega)).sI (by omega)
      have nu : nx u = q + 3 := by rw [← hu]; exact ng
      have su : sc u = sc h0 + 24 := by rw [← hu]; exact sg
      have Ru := R0.sw (jk Lu).sw
      obtain ⟨N1, -, ⟨kk, c9, k1, -, L1⟩, -⟩ := Ru.nd hk
      have k3 := Ig.1
      have fin : ∀ x, Chr x → (∀ Q, WP Gm j_Mdl_row 21 [some (.inr (.inl (some 121))), some (.inr (.inl (some q))), some (.inr (.inl (some (q + 2)))), v3] [] g Q = WP Gm j_Mdl_row 82 [some (.inr (.inl (some 121))), some (.inr (.inl (some q))), some (.inr (.inl (some (q + 2)))), some (.inr (.inl (some (p k))))] [.inl x, .inr (.inl (some q))] u Q) →
          ∃ a' : Hp × Option MV, (∀ Q, WP Gm j_Mdl_row 21 [some (.inr (.inl (some 121))), some (.inr (.inl (some q))), some (.inr (.inl (some (q + 2)))), v3] [] g Q = WP Gm j_Mdl_row 21 [some (.inr (.inl (some 121))), some (.inr (.inl (some q))), some (.inr (.inl (some (q + 2)))), a'.2] [] a'.1 Q) ∧ Sb a'.1 q (k + 1) ∧ It a'.1 (q + 2) 122 (k + 1) ∧ Lo9 q h0 a'.1 ∧ nx a'.1 = q + 3 ∧ sc a'.1 = sc h0 + 24 := fun x hx e => by
        obtain ⟨y1, y2⟩ := q_sbAppend Su (show k < 9 by omega) hx
        obtain ⟨i1, i2, i3, i4, i5⟩ := Iu
        refine ⟨(sI (sI u q 3 (ii (k + 1))) (q + 1) k x, some (.inr (.inl (some (p k))))), fun Q => ?_, y2, ⟨i1, i2, ?_, ?_, i5⟩, (Lu.sI (Nat.le_refl _)).sI (by omega), nu, su⟩
        · rw [e]
          simp only [↓e_Mdl_row_0, ↓e_Mdl_row_1, ↓e_Mdl_row_2, ↓e_Mdl_row_5, ↓e_Mdl_row_8, ↓e_Mdl_row_9, ↓e_Mdl_row_12, ↓e_Mdl_row_13, ↓e_Mdl_row_14, ↓e_Mdl_row_17, ↓e_Mdl_row_20, ↓e_Mdl_row_22, ↓e_Mdl_row_27, ↓e_Mdl_row_30, ↓e_Mdl_row_31, ↓e_Mdl_row_36, ↓e_Mdl_row_39, ↓e_Mdl_row_40, ↓e_Mdl_row_41, ↓e_Mdl_row_42, ↓e_Mdl_row_45, ↓e_Mdl_row_48, ↓e_Mdl_row_50, ↓e_Mdl_row_53, ↓e_Mdl_row_54, ↓e_Mdl_row_57, ↓e_Mdl_row_60, ↓e_Mdl_row_62, ↓e_Mdl_row_65, ↓e_Mdl_row_66, ↓e_Mdl_row_69, ↓e_Mdl_row_72, ↓e_Mdl_row_75, ↓e_Mdl_row_77, ↓e_Mdl_row_80, ↓e_Mdl_row_82, ↓e_Mdl_row_85, ↓e_Mdl_row_86, ↓e_Mdl_row_89, ↓e_Mdl_row_90, ↓e_Mdl_row_93, ↓f_Mdl_row_82, not_true_eq_false, not_false_eq_true, one0, true_or, or_true, eq_self, bI_z, bI_nz, bI_o, b_ft, bI_1, bI_0, ↓kC_l, ↓kC_r, Option.toList_some, Option.toList_none, List.cons_append, List.nil_append, s1_0, s1_1i, s1_1r, s1_1w, s1_1n, s1_s, s2_0, s2_1i, s2_1r, s2_1w, s2_1n, s2_s, gI_sI, gI_sR, gI_sL, gI_sD, gR_sI, gR_sR, gR_sL, gR_sD, gL_sI, gL_sR, gL_sL, gL_sD, gD_sI, gD_sR, gD_sL, gD_sD, isK_sI, isK_sR, isK_sL, isK_sD, inL_sI, inL_sR, inL_sL, inL_sD, nx_sI, nx_sR, nx_sL, nx_sD, kd_sI, kd_sR, kd_sL, kd_sD, ln_sI, ln_sR, ln_sL, ln_sD, ↓reduceIte, c8_n, c8_1, c8_2, c8_3, c8_4, Nat.reduceAdd, Su.1, y1]
        · dsimp only
          rw [gI_sI, if_neg (by omega), gI_sI, if_neg (by omega)]; exact i3
        · dsimp only
          rw [gI_sI, if_neg (by omega), gI_sI, if_neg (by omega), gI_sI, if_neg (by omega), gI_sI, if_neg (by omega)]; exact i4
      by_cases h7 : 0 < gI u (p k) 7
      · refine fin 84 (Or.inl rfl) fun Q => ?_
        rw [e_Mdl_row_21]
        simp only [↓e_Mdl_row_0, ↓e_Mdl_row_1, ↓e_Mdl_row_2, ↓e_Mdl_row_5, ↓e_Mdl_row_8, ↓e_Mdl_row_9, ↓e_Mdl_row_12, ↓e_Mdl_row_13, ↓e_Mdl_row_14, ↓e_Mdl_row_17, ↓e_Mdl_row_20, ↓e_Mdl_row_22, ↓e_Mdl_row_27, ↓e_Mdl_row_30, ↓e_Mdl_row_31, ↓e_Mdl_row_36, ↓e_Mdl_row_39, ↓e_Mdl_row_40, ↓e_Mdl_row_41, ↓e_Mdl_row_42, ↓e_Mdl_row_45, ↓e_Mdl_row_48, ↓e_Mdl_row_50, ↓e_Mdl_row_53, ↓e_Mdl_row_54, ↓e_Mdl_row_57, ↓e_Mdl_row_60, ↓e_Mdl_row_62, ↓e_Mdl_row_65, ↓e_Mdl_row_66, ↓e_Mdl_row_69, ↓e_Mdl_row_72, ↓e_Mdl_row_75, ↓e_Mdl_row_77, ↓e_Mdl_row_80, ↓e_Mdl_row_85, ↓e_Mdl_row_86, ↓e_Mdl_row_89, ↓e_Mdl_row_90, ↓e_Mdl_row_93, not_true_eq_false, not_false_eq_true, one0, true_or, or_true, eq_self, bI_z, bI_nz, bI_o, b_ft, bI_1, bI_0, ↓kC_l, ↓kC_r, Option.toList_some, Option.toList_none, List.cons_append, List.nil_append, s1_0, s1_1i, s1_1r, s1_1w, s1_1n, s1_s, s2_0, s2_1i, s2_1r, s2_1w, s2_1n, s2_s, gI_sI, gI_sR, gI_sL, gI_sD, gR_sI, gR_sR, gR_sL, gR_sD, gL_sI, gL_sR, gL_sL, gL_sD, gD_sI, gD_sR, gD_sL, gD_sD, isK_sI, isK_sR, isK_sL, isK_sD, inL_sI, inL_sR, inL_sL, inL_sD, nx_sI, nx_sR, nx_sL, nx_sD, kd_sI, kd_sR, kd_sL, kd_sD, ln_sI, ln_sR, ln_sL, ln_sD, ↓reduceIte, c8_n, c8_1, c8_2, c8_3, c8_4, Nat.reduceAdd, k3, q_zhas _ Lsg Ig (show k ≤ n by omega), hk, decide_true, hx9, Ru.nk hk, Ru.nz hk, q_msends _ (Ru.nk hk), h7]
      · by_cases h5 : gI u (p k) 5 ≤ 0
        · by_cases h0k : kk = 0
          · refine fin 46 (Or.inr (Or.inr (Or.inl rfl))) fun Q => ?_
            rw [e_Mdl_row_21]
            simp only [↓e_Mdl_row_0, ↓e_Mdl_row_1, ↓e_Mdl_row_2, ↓e_Mdl_row_5, ↓e_Mdl_row_8, ↓e_Mdl_row_9, ↓e_Mdl_row_12, ↓e_Mdl_row_13, ↓e_Mdl_row_14, ↓e_Mdl_row_17, ↓e_Mdl_row_20, ↓e_Mdl_row_22, ↓e_Mdl_row_27, ↓e_Mdl_row_30, ↓e_Mdl_row_31, ↓e_Mdl_row_36, ↓e_Mdl_row_39, ↓e_Mdl_row_40, ↓e_Mdl_row_41, ↓e_Mdl_row_42, ↓e_Mdl_row_45, ↓e_Mdl_row_48, ↓e_Mdl_row_50, ↓e_Mdl_row_53, ↓e_Mdl_row_54, ↓e_Mdl_row_57, ↓e_Mdl_row_60, ↓e_Mdl_row_62, ↓e_Mdl_row_65, ↓e_Mdl_row_66, ↓e_Mdl_row_69, ↓e_Mdl_row_72, ↓e_Mdl_row_75, ↓e_Mdl_row_77, ↓e_Mdl_row_80, ↓e_Mdl_row_85, ↓e_Mdl_row_86, ↓e_Mdl_row_89, ↓e_Mdl_row_90, ↓e_Mdl_row_93, not_true_eq_false, not_false_eq_true, one0, true_or, or_true, eq_self, bI_z, bI_nz, bI_o, b_ft, bI_1, bI_0, ↓kC_l, ↓kC_r, Option.toList_some, Option.toList_none, List.cons_append, List.nil_append, s1_0, s1_1i, s1_1r, s1_1w, s1_1n, s1_s, s2_0, s2_1i, s2_1r, s2_1w, s2_1n, s2_s, gI_sI, gI_sR, gI_sL, gI_sD, gR_sI, gR_sR, gR_sL, gR_sD, gL_sI, gL_sR, gL_sL, gL_sD, gD_sI, gD_sR, gD_sL, gD_sD, isK_sI, isK_sR, isK_sL, isK_sD, inL_sI, inL_sR, inL_sL, inL_sD, nx_sI, nx_sR, nx_sL, nx_sD, kd_sI, kd_sR, kd_sL, kd_sD, ln_sI, ln_sR, ln_sL, ln_sD, ↓reduceIte, c8_n, c8_1, c8_2, c8_3, c8_4, Nat.reduceAdd, k3, q_zhas _ Lsg Ig (show k ≤ n by omega), hk, decide_true, hx9, Ru.nk hk, Ru.nz hk, q_msends _ (Ru.nk hk), h7, decide_false, h5, N1.2.2.1.1, L1.kd, q_zempty _ L1, h0k]
          · refine fin 113 (Or.inr (Or.inr (Or.inr rfl))) fun Q => ?_
            rw [e_Mdl_row_21]
            simp only [↓e_Mdl_row_0, ↓e_Mdl_row_1, ↓e_Mdl_row_2, ↓e_Mdl_row_5, ↓e_Mdl_row_8, ↓e_Mdl_row_9, ↓e_Mdl_row_12, ↓e_Mdl_row_13, ↓e_Mdl_row_14, ↓e_Mdl_row_17, ↓e_Mdl_row_20, ↓e_Mdl_row_22, ↓e_Mdl_row_27, ↓e_Mdl_row_30, ↓e_Mdl_row_31, ↓e_Mdl_row_36, ↓e_Mdl_row_39, ↓e_Mdl_row_40, ↓e_Mdl_row_41, ↓e_Mdl_row_42, ↓e_Mdl_row_45, ↓e_Mdl_row_48, ↓e_Mdl_row_50, ↓e_Mdl_row_53, ↓e_Mdl_row_54, ↓e_Mdl_row_57, ↓e_Mdl_row_60, ↓e_Mdl_row_62, ↓e_Mdl_row_65, ↓e_Mdl_row_66, ↓e_Mdl_row_69, ↓e_Mdl_row_72, ↓e_Mdl_row_75, ↓e_Mdl_row_77, ↓e_Mdl_row_80, ↓e_Mdl_row_85, ↓e_Mdl_row_86, ↓e_Mdl_row_89, ↓e_Mdl_row_90, ↓e_Mdl_row_93, not_true_eq_false, not_false_eq_true, one0, true_or, or_true, eq_self, bI_z, bI_nz, bI_o, b_ft, bI_1, bI_0, ↓kC_l, ↓kC_r, Option.toList_some, Option.toList_none, List.cons_append, List.nil_append, s1_0, s1_1i, s1_1r, s1_1w, s1_1n, s1_s, s2_0, s2_1i, s2_1r, s2_1w, s2_1n, s2_s, gI_sI, gI_sR, gI_sL, gI_sD, gR_sI, gR_sR, gR_sL, gR_sD, gL_sI, gL_sR, gL_sL, gL_sD, gD_sI, gD_sR, gD_sL, gD_sD, isK_sI, isK_sR, isK_sL, isK_sD, inL_sI, inL_sR, inL_sL, inL_sD, nx_sI, nx_sR, nx_sL, nx_sD, kd_sI, kd_sR, kd_sL, kd_sD, ln_sI, ln_sR, ln_sL, ln_sD, ↓reduceIte, c8_n, c8_1, c8_2, c8_3, c8_4, Nat.reduceAdd, k3, q_zhas _ Lsg Ig (show k ≤ n by omega), hk, decide_true, hx9, Ru.nk hk, Ru.nz hk, q_msends _ (Ru.nk hk), h7, decide_false, h5, N1.2.2.1.1, L1.kd, q_zempty _ L1, h0k]
        · refine fin 119 (Or.inr (Or.inl rfl)) fun Q => ?_
          rw [e_Mdl_row_21]
          simp only [↓e_Mdl_row_0, ↓e_Mdl_row_1, ↓e_Mdl_row_2, ↓e_Mdl_row_5, ↓e_Mdl_row_8, ↓e_Mdl_row_9, ↓e_Mdl_row_12, ↓e_Mdl_row_13, ↓e_Mdl_row_14, ↓e_Mdl_row_17, ↓e_Mdl_row_20, ↓e_Mdl_row_22, ↓e_Mdl_row_27, ↓e_Mdl_row_30, ↓e_Mdl_row_31, ↓e_Mdl_row_36, ↓e_Mdl_row_39, ↓e_Mdl_row_40, ↓e_Mdl_row_41, ↓e_Mdl_row_42, ↓e_Mdl_row_45, ↓e_Mdl_row_48, ↓e_Mdl_row_50, ↓e_Mdl_row_53, ↓e_Mdl_row_54, ↓e_Mdl_row_57, ↓e_Mdl_row_60, ↓e_Mdl_row_62, ↓e_Mdl_row_65, ↓e_Mdl_row_66, ↓e_Mdl_row_69, ↓e_Mdl_row_72, ↓e_Mdl_row_75, ↓e_Mdl_row_77, ↓e_Mdl_row_80, ↓e_Mdl_row_85, ↓e_Mdl_row_86, ↓e_Mdl_row_89, ↓e_Mdl_row_90, ↓e_Mdl_row_93, not_true_eq_false, not_false_eq_true, one0, true_or, or_true, eq_self, bI_z, bI_nz, bI_o, b_ft, bI_1, bI_0, ↓kC_l, ↓kC_r, Option.toList_some, Option.toList_none, List.cons_append, List.nil_append, s1_0, s1_1i, s1_1r, s1_1w, s1_1n, s1_s, s2_0, s2_1i, s2_1r, s2_1w, s2_1n, s2_s, gI_sI, gI_sR, gI_sL, gI_sD, gR_sI, gR_sR, gR_sL, gR_sD, gL_sI, gL_sR, gL_sL, gL_sD, gD_sI, gD_sR, gD_sL, gD_sD, isK_sI, isK_sR, isK_sL, isK_sD, inL_sI, inL_sR, inL_sL, inL_sD, nx_sI, nx_sR, nx_sL, nx_sD, kd_sI, kd_sR, kd_sL, kd_sD, ln_sI, ln_sR, ln_sL, ln_sD, ↓reduceIte, c8_n, c8_1, c8_2, c8_3, c8_4, Nat.reduceAdd, k3, q_zhas _ Lsg Ig (show k ≤ n by omega), hk, decide_true, hx9, Ru.nk hk, Ru.nz hk, q_msends _ (Ru.nk hk), h7, decide_false, h5]) n 0 (g2, none) (by omega) ⟨S2, I2, l2, n2, s2⟩
  dsimp only at e1 Sg Ig Lg ng sg
  obtain ⟨r, u, b1, b2, b3, b4⟩ := q_sbString Sg (show n < 10 by omega) (by omega) (by omega)
  have Lu : Lo9 q h0 u := Lg.trans ⟨fun a k ha => b2.1 a k (by omega), fun a ha => b2.2.1 a (by omega), b2.2.2⟩
  have k3 := Ig.1
  have Lsg := Lst0 Lg
  refine ⟨r, u, fun Q => ?_, Mo.sw R (Sh.trans (jk Lu).sw) (by omega) (by omega)⟩
  have pre : WP Gm j_Mdl_row 0 [some (.inr (.inl (some 121))), none, none, none] [] h Q = WP Gm j_Mdl_row 21 [some (.inr (.inl (some 121))), some (.inr (.inl (some q))), some (.inr (.inl (some (q + 2)))), none] [] g2 Q := by
    simp only [↓e_Mdl_row_0, ↓e_Mdl_row_1, ↓e_Mdl_row_2, ↓e_Mdl_row_5, ↓e_Mdl_row_8, ↓e_Mdl_row_9, ↓e_Mdl_row_12, ↓e_Mdl_row_13, ↓e_Mdl_row_14, ↓e_Mdl_row_17, ↓e_Mdl_row_20, ↓e_Mdl_row_22, ↓e_Mdl_row_27, ↓e_Mdl_row_30, ↓e_Mdl_row_31, ↓e_Mdl_row_36, ↓e_Mdl_row_39, ↓e_Mdl_row_40, ↓e_Mdl_row_41, ↓e_Mdl_row_42, ↓e_Mdl_row_45, ↓e_Mdl_row_48, ↓e_Mdl_row_50, ↓e_Mdl_row_53, ↓e_Mdl_row_54, ↓e_Mdl_row_57, ↓e_Mdl_row_60, ↓e_Mdl_row_62, ↓e_Mdl_row_65, ↓e_Mdl_row_66, ↓e_Mdl_row_69, ↓e_Mdl_row_72, ↓e_Mdl_row_75, ↓e_Mdl_row_77, ↓e_Mdl_row_80, ↓e_Mdl_row_82, ↓e_Mdl_row_85, ↓e_Mdl_row_86, ↓e_Mdl_row_89, ↓e_Mdl_row_90, ↓e_Mdl_row_93, not_true_eq_false, not_false_eq_true, one0, true_or, or_true, eq_self, bI_z, bI_nz, bI_o, b_ft, bI_1, bI_0, ↓kC_l, ↓kC_r, Option.toList_some, Option.toList_none, List.cons_append, List.nil_append, s1_0, s1_1i, s1_1r, s1_1w, s1_1n, s1_s, s2_0, s2_1i, s2_1r, s2_1w, s2_1n, s2_s, gI_sI, gI_sR, gI_sL, gI_sD, gR_sI, gR_sR, gR_sL, gR_sD, gL_sI, gL_sR, gL_sL, gL_sD, gD_sI, gD_sR, gD_sL, gD_sD, isK_sI, isK_sR, isK_sL, isK_sD, inL_sI, inL_sR, inL_sL, inL_sD, nx_sI, nx_sR, nx_sL, nx_sD, kd_sI, kd_sR, kd_sL, kd_sD, ln_sI, ln_sR, ln_sL, ln_sD, ↓reduceIte, c8_n, c8_1, c8_2, c8_3, c8_4, Nat.reduceAdd, R.k, hh0, hr, hq, hg0, k0, a1, R1.k, R1.r9, R1.k122, it1]
  rw [pre, e1 Q, e_Mdl_row_21]
  simp only [↓e_Mdl_row_0, ↓e_Mdl_row_1, ↓e_Mdl_row_2, ↓e_Mdl_row_5, ↓e_Mdl_row_8, ↓e_Mdl_row_9, ↓e_Mdl_row_12, ↓e_Mdl_row_13, ↓e_Mdl_row_14, ↓e_Mdl_row_17, ↓e_Mdl_row_20, ↓e_Mdl_row_22, ↓e_Mdl_row_27, ↓e_Mdl_row_30, ↓e_Mdl_row_31, ↓e_Mdl_row_36, ↓e_Mdl_row_39, ↓e_Mdl_row_40, ↓e_Mdl_row_41, ↓e_Mdl_row_42, ↓e_Mdl_row_45, ↓e_Mdl_row_48, ↓e_Mdl_row_50, ↓e_Mdl_row_53, ↓e_Mdl_row_54, ↓e_Mdl_row_57, ↓e_Mdl_row_60, ↓e_Mdl_row_62, ↓e_Mdl_row_65, ↓e_Mdl_row_66, ↓e_Mdl_row_69, ↓e_Mdl_row_72, ↓e_Mdl_row_75, ↓e_Mdl_row_77, ↓e_Mdl_row_80, ↓e_Mdl_row_82, ↓e_Mdl_row_85, ↓e_Mdl_row_86, ↓e_Mdl_row_89, ↓e_Mdl_row_90, ↓e_Mdl_row_93, not_true_eq_false, not_false_eq_true, one0, true_or, or_true, eq_self, bI_z, bI_nz, bI_o, b_ft, bI_1, bI_0, ↓kC_l, ↓kC_r, Option.toList_some, Option.toList_none, List.cons_append, List.nil_append, s1_0, s1_1i, s1_1r, s1_1w, s1_1n, s1_s, s2_0, s2_1i, s2_1r, s2_1w, s2_1n, s2_s, gI_sI, gI_sR, gI_sL, gI_sD, gR_sI, gR_sR, gR_sL, gR_sD, gL_sI, gL_sR, gL_sL, gL_sD, gD_sI, gD_sR, gD_sL, gD_sD, isK_sI, isK_sR, isK_sL, isK_sD, inL_sI, inL_sR, inL_sL, inL_sD, nx_sI, nx_sR, nx_sL, nx_sD, kd_sI, kd_sR, kd_sL, kd_sD, ln_sI, ln_sR, ln_sL, ln_sD, ↓reduceIte, c8_n, c8_1, c8_2, c8_3, c8_4, Nat.reduceAdd, k3, q_zhas _ Lsg Ig (Nat.le_refl n), Nat.lt_irrefl, decide_false, Sg.1, b1]
end ROW
