/-! pinit2: the constructors: sets, nodes -/
section IN2
variable {a : Nat} {h : Hp}
theorem q_setInit (hk : kd h a = kc_NumberSet) (hn : nx h = a + 1) (ha : a ≤ 1000) (hs : sc h ≤ 50000) : ∃ h', (∀ Q, WP Gm j_NumberSet_init 0 [some (.inr (.inl (some a)))] [] h Q = Q (.inl none) h') ∧ Sm (fun b => b < a) h h' ∧ Km 8 h h' ∧ nx h' = a + 2 ∧ gR h' a 0 = some (a + 1) ∧ kd h' (a + 1) = 101 ∧ ln h' (a + 1) = 8 ∧ ∀ k, gL h' (a + 1) k = 0 := by
  generalize hg0 : sR (hN h 101 8 8) a 0 (some (a + 1)) = g0
  refine ⟨g0, fun Q => ?_, ?_, ?_, ?_, ?_, ?_, ?_, fun k => ?_⟩
  · have hr : okR cM sM h 1 (Int32.toNatClampNeg 8) = true := ok_small (by omega) (by omega) (by omega) (by decide)
    have hi : (0 : Int32) ≤ 8 ∧ (8 : Int32).toNatClampNeg ≤ 1000000 := by decide
    have t8 : Int32.toNatClampNeg 8 = 8 := by decide
    have f1 : isK (hN h 101 8 8) a kc_NumberSet = true := isK_of (by rw [nx_hN]; omega) (by rw [kd_hN, if_neg (by omega)]; exact hk)
    simp only [↓e_NumberSet_init_0, ↓e_NumberSet_init_1, ↓e_NumberSet_init_4, ↓e_NumberSet_init_5, ↓e_NumberSet_init_9, ↓e_NumberSet_init_12, not_true_eq_false, not_false_eq_true, one0, true_or, or_true, eq_self, bI_z, bI_nz, bI_o, b_ft, bI_1, bI_0, ↓kC_l, ↓kC_r, Option.toList_some, Option.toList_none, List.cons_append, List.nil_append, s1_0, s1_1i, s1_1r, s1_1w, s1_1n, s1_s, s2_0, s2_1i, s2_1r, s2_1w, s2_1n, s2_s, gI_sI, gI_sR, gI_sL, gI_sD, gR_sI, gR_sR, gR_sL, gR_sD, gL_sI, gL_sR, gL_sL, gL_sD, gD_sI, gD_sR, gD_sL, gD_sD, isK_sI, isK_sR, isK_sL, isK_sD, inL_sI, inL_sR, inL_sL, inL_sD, nx_sI, nx_sR, nx_sL, nx_sD, kd_sI, kd_sR, kd_sL, kd_sD, ln_sI, ln_sR, ln_sL, ln_sD, ↓reduceIte, c8_n, c8_1, c8_2, c8_3, c8_4, Nat.reduceAdd]
    rw [e_NumberSet_init_7 (i := 8) (hi := hi) (hr := hr)]
    simp only [↓e_NumberSet_init_0, ↓e_NumberSet_init_1, ↓e_NumberSet_init_4, ↓e_NumberSet_init_5, ↓e_NumberSet_init_9, ↓e_NumberSet_init_12, not_true_eq_false, not_false_eq_true, one0, true_or, or_true, eq_self, bI_z, bI_nz, bI_o, b_ft, bI_1, bI_0, ↓kC_l, ↓kC_r, Option.toList_some, Option.toList_none, List.cons_append, List.nil_append, s1_0, s1_1i, s1_1r, s1_1w, s1_1n, s1_s, s2_0, s2_1i, s2_1r, s2_1w, s2_1n, s2_s, gI_sI, gI_sR, gI_sL, gI_sD, gR_sI, gR_sR, gR_sL, gR_sD, gL_sI, gL_sR, gL_sL, gL_sD, gD_sI, gD_sR, gD_sL, gD_sD, isK_sI, isK_sR, isK_sL, isK_sD, inL_sI, inL_sR, inL_sL, inL_sD, nx_sI, nx_sR, nx_sL, nx_sD, kd_sI, kd_sR, kd_sL, kd_sD, ln_sI, ln_sR, ln_sL, ln_sD, ↓reduceIte, c8_n, c8_1, c8_2, c8_3, c8_4, Nat.reduceAdd, t8, hn, f1, hg0]
  · rw [← hg0]; exact ((Sm.refl h).hN _ _ _ (by omega)).sR _ _ (by omega)
  · rw [← hg0]; exact ((Km.refl h).hN 101 8 8).sR _ _
  · rw [← hg0, nx_sR, nx_hN, hn]
  · rw [← hg0, gR_sR, if_pos ⟨rfl, rfl⟩]
  · rw [← hg0, kd_sR, kd_hN, if_pos hn.symm]
  · rw [← hg0, ln_sR, ln_hN, if_pos hn.symm]
  · rw [← hg0, gL_sR, gL_hN, if_pos hn.symm]
theorem FQ.keep {h' : Hp} (q : FQ a h) (x : Sm (fun b => a ≤ b ∧ b < a + 6) h h') (ek : ∀ b, a ≤ b → b < a + 6 → kd h' b = kd h b ∧ ln h' b = ln h b) : FQ a h' := by
  obtain ⟨q1, q2, q3, q4, q5⟩ := q
  refine ⟨by rw [(x a 0 (by omega)).2.1]; exact q1, by rw [(x a 1 (by omega)).1]; exact q2, by rw [(ek (a + 1) (by omega) (by omega)).1]; exact q3, by rw [(ek (a + 1) (by omega) (by omega)).2]; exact q4, fun i hi => ?_⟩
  obtain ⟨r1, r2⟩ := q5 i hi
  exact ⟨by rw [(x (a + 1) i (by omega)).2.1]; exact r1, by rw [(ek (a + 2 + i) (by omega) (by omega)).1]; exact r2⟩
def ND (a : Nat) (h : Hp) : Prop := kd h a = kc_Node ∧ gR h a 4 = some (a + 1) ∧ gR h a 15 = some (a + 7) ∧ FQ (a + 1) h ∧ kd h (a + 1) = kc_FrameQueue ∧ kd h (a + 7) = kc_NumberSet ∧ gR h (a + 7) 0 = some (a + 8) ∧ kd h (a + 8) = 101 ∧ ln h (a + 8) = 8 ∧
  (∀ k, 6 ≤ k → k < 15 → k ≠ 8 → k ≠ 9 → gI h a k = 0) ∧ ∀ k, gL h (a + 8) k = 0
theorem ND.keep {h' : Hp} (q : ND a h) (x : Sm (fun b => a ≤ b ∧ b < a + 9) h h') (ek : ∀ b, a ≤ b → b < a + 9 → kd h' b = kd h b ∧ ln h' b = ln h b) : ND a h' := by
  obtain ⟨q0, q1, q2, q3, q4, q5, q6, q7, q8, q9, q10⟩ := q
  exact ⟨by rw [(ek a (by omega) (by omega)).1]; exact q0, by rw [(x a 4 (by omega)).2.1]; exact q1, by rw [(x a 15 (by omega)).2.1]; exact q2, q3.keep (x.mono fun b q => by omega) (fun b p r => ek b (by omega) (by omega)), by rw [(ek (a + 1) (by omega) (by omega)).1]; exact q4, by rw [(ek (a + 7) (by omega) (by omega)).1]; exact q5, by rw [(x (a + 7) 0 (by omega)).2.1]; exact q6, by rw [(ek (a + 8) (by omega) (by omega)).1]; exact q7, by rw [(ek (a + 8) (by omega) (by omega)).2]; exact q8, fun k p1 p2 p3 p4 => by rw [(x a k (by omega)).1]; exact q9 k p1 p2 p3 p4, fun k => by rw [(x (a + 8) k (by omega)).2.2]; exact q10 k⟩
theorem q_nodeInit (hk : kd h a = kc_Node) (hn : nx h = a + 1) (ha : a ≤ 900) (hs : sc h ≤ 40000) : ∃ h', (∀ Q, WP Gm j_Node_init 0 [some (.inr (.inl (some a)))] [] h Q = Q (.inl none) h') ∧ Sm (fun b => b < a) h h' ∧ Km 40 h h' ∧ nx h' = a + 9 ∧ ND a h' := by
  have k0 : isK h a kc_Node = true := isK_of (by omega) hk
  generalize hh1 : sI (sI (sI (sI h a 0 0) a 1 0) a 2 0) a 3 0 = h1
  have F1 : Fr (fun b _ => b = a) nW nW h h1 := by rw [← hh1]; exact ((((Fr.refl (WI := fun b _ => b = a) (WR := nW) (WL := nW) h).sI _ rfl).sI _ rfl).sI _ rfl).sI _ rfl
  have n1 : nx h1 = a + 1 := by rw [F1.2.2.2.2.2.1, hn]
  have s1 : sc h1 = sc h := F1.2.2.2.2.2.2
  have kd1 : ∀ b, kd h1 b = kd h b := F1.2.2.2.1
  generalize hh2 : hN h1 kc_FrameQueue 0 2 = h2
  have n2 : nx h2 = a + 2 := by rw [← hh2, nx_hN, n1]
  have s2 : sc h2 = sc h + 2 := by rw [← hh2, sc_hN, s1]
  have kd2 : ∀ b, kd h2 b = if b = a + 1 then kc_FrameQueue else kd h b := fun b => by rw [← hh2, kd_hN, n1, kd1]
  have hr1 : okR cM sM h1 1 2 = true := ok_small (by omega) (by omega) (by omega) (by omega)
  have kq : isK h2 (a + 1) kc_FrameQueue = true := isK_of (by omega) (by rw [kd2, if_pos rfl])
  obtain ⟨h3, e3, S3, K3, n3, Q3⟩ := q_queueInit (h := h2) (a := a + 1) (by rw [kd2, if_pos rfl]) n2 (by omega) (by omega)
  have hK3 := K3.2.2
  have kd3 : ∀ b, b < a + 2 → kd h3 b = kd h2 b := fun b hb => (K3.1 b (by omega)).1
  have kn3 : isK h3 a kc_Node = true := isK_of (by omega) (by rw [kd3 _ (by omega), kd2, if_neg (by omega)]; exact hk)
  generalize hh4 : sI (sI (sI (sI (sI (sI (sI (sI (sI (sI (sR h3 a 4 (some (a + 1))) a 5 0) a 6 0) a 7 0) a 8 (-1)) a 9 0) a 10 0) a 11 0) a 12 0) a 13 0) a 14 0 = h4
  have F4 : Fr (fun b _ => b = a) (fun b _ => b = a) nW h3 h4 := by
    rw [← hh4]
    exact (((((((((((Fr.refl (WI := fun b _ => b = a) (WR := fun b _ => b = a) (WL := nW) h3).sR _ rfl).sI _ rfl).sI _ rfl).sI _ rfl).sI _ rfl).sI _ rfl).sI _ rfl).sI _ rfl).sI _ rfl).sI _ rfl).sI _ rfl
  have z4 : ∀ k, 6 ≤ k → k < 15 → k ≠ 8 → k ≠ 9 → gI h4 a k = 0 := by
    intro k p1 p2 p3 p4
    rw [← hh4]
    have : k = 6 ∨ k = 7 ∨ k = 10 ∨ k = 11 ∨ k = 12 ∨ k = 13 ∨ k = 14 := by omega
    rcases this with rfl | rfl | rfl | rfl | rfl | rfl | rfl <;> simp [gI_sI]
  have r4 : gR h4 a 4 = some (a + 1) := by rw [← hh4]; simp only [gR_sI]; rw [gR_sR, if_pos ⟨rfl, rfl⟩]
  have n4 : nx h4 = a + 7 := by rw [F4.2.2.2.2.2.1, n3]
  have s4 : sc h4 ≤ sc h + 26 := by rw [F4.2.2.2.2.2.2]; omega
  have hr4 : okR cM sM h4 1 1 = true := ok_small (by omega) (by omega) (by omega) (by omega)
  generalize hh5 : hN h4 kc_NumberSet 0 1 = h5
  have n5 : nx h5 = a + 8 := by rw [← hh5, nx_hN, n4]
  have s5 : sc h5 ≤ sc h + 27 := by rw [← hh5, sc_hN]; omega
  have kd5 : ∀ b, kd h5 b = if b = a + 7 then kc_NumberSet else kd h3 b := fun b => by rw [← hh5, kd_hN, n4, F4.2.2.2.1]
  have ln5 : ∀ b, b ≠ a + 7 → ln h5 b = ln h3 b := fun b hb => by rw [← hh5, ln_hN, n4, if_neg hb, F4.2.2.2.2.1]
  have ks : isK h5 (a + 7) kc_NumberSet = true := isK_of (by omega) (by rw [kd5, if_pos rfl])
  obtain ⟨h6, e6, S6, K6, n6, t1, t2, t3, t4⟩ := q_setInit (h := h5) (a := a + 7) (by rw [kd5, if_pos rfl]) n5 (by omega) (by omega)
  have hK6 := K6.2.2
  have kn6 : isK h6 a kc_Node = true := isK_of (by omega) (by rw [(K6.1 a (by omega)).1, kd5, if_neg (by omega), kd3 _ (by omega), kd2, if_neg (by omega)]; exact hk)
  have x45 : Sm (fun b => b < a + 7) h4 h5 := by rw [← hh5]; exact (Sm.refl h4).hN _ _ _ (by omega)
  have x46 : Sm (fun b => b < a + 7) h4 h6 := x45.trans S6
  refine ⟨sR h6 a 15 (some (a + 7)), fun Q => ?_, ?_, ?_, ?_, ?_⟩
  · simp only [↓e_Node_init_0, ↓e_Node_init_1, ↓e_Node_init_4, ↓e_Node_init_5, ↓e_Node_init_6, ↓e_Node_init_9, ↓e_Node_init_10, ↓e_Node_init_11, ↓e_Node_init_14, ↓e_Node_init_15, ↓e_Node_init_16, ↓e_Node_init_19, ↓e_Node_init_20, ↓e_Node_init_21, ↓e_Node_init_24, ↓e_Node_init_25, ↓e_Node_init_28, ↓e_Node_init_29, ↓e_Node_init_32, ↓e_Node_init_35, ↓e_Node_init_36, ↓e_Node_init_37, ↓e_Node_init_40, ↓e_Node_init_41, ↓e_Node_init_42, ↓e_Node_init_45, ↓e_Node_init_46, ↓e_Node_init_47, ↓e_Node_init_50, ↓e_Node_init_51, ↓e_Node_init_52, ↓e_Node_init_55, ↓e_Node_init_56, ↓e_Node_init_57, ↓e_Node_init_60, ↓e_Node_init_61, ↓e_Node_init_62, ↓e_Node_init_65, ↓e_Node_init_66, ↓e_Node_init_67, ↓e_Node_init_70, ↓e_Node_init_71, ↓e_Node_init_72, ↓e_Node_init_75, ↓e_Node_init_76, ↓e_Node_init_77, ↓e_Node_init_80, ↓e_Node_init_81, ↓e_Node_init_82, ↓e_Node_init_85, ↓e_Node_init_86, ↓e_Node_init_89, ↓e_Node_init_90, ↓e_Node_init_93, ↓e_Node_init_96, not_true_eq_false, not_false_eq_true, one0, true_or, or_true, eq_self, bI_z, bI_nz, bI_o, b_ft, bI_1, bI_0, ↓kC_l, ↓kC_r, Option.toList_some, Option.toList_none, List.cons_append, List.nil_append, s1_0, s1_1i, s1_1r, s1_1w, s1_1n, s1_s, s2_0, s2_1i, s2_1r, s2_1w, s2_1n, s2_s, gI_sI, gI_sR, gI_sL, gI_sD, gR_sI, gR_sR, gR_sL, gR_sD, gL_sI, gL_sR, gL_sL, gL_sD, gD_sI, gD_sR, gD_sL, gD_sD, isK_sI, isK_sR, isK_sL, isK_sD, inL_sI, inL_sR, inL_sL, inL_sD, nx_sI, nx_sR, nx_sL, nx_sD, kd_sI, kd_sR, kd_sL, kd_sD, ln_sI, ln_sR, ln_sL, ln_sD, ↓reduceIte, c8_n, c8_1, c8_2, c8_3, c8_4, Nat.reduceAdd, k0, hh1, hr1, n1, hh2, kq, e3, kn3, hh4, hr4, n4, hh5, ks, e6, kn6]
  · have y1 : Sm (fun b => b < a) h h2 := by rw [← hh2]; exact ((Sm.refl h).fr F1 (fun b k q w => by omega) (fun _ _ _ w => w) (fun _ _ _ w => w)).hN _ _ _ (by omega)
    have y2 : Sm (fun b => b < a) h h4 := (y1.trans (S3.mono fun b q => by omega)).fr F4 (fun b k q w => by omega) (fun b k q w => by omega) (fun _ _ _ w => w)
    exact (y2.trans (x46.mono fun b q => by omega)).sR _ _ (by omega)
  · have m2 : Km 2 h h2 := by rw [← hh2]; exact ((Km.refl h).fr F1).hN _ _ _
    have m4 : Km 26 h h4 := ((m2.trans K3).fr F4).le (by omega)
    have m5 : Km 27 h h5 := by rw [← hh5]; exact m4.hN _ _ _
    exact ((m5.trans K6).sR _ _).le (by omega)
  · rw [nx_sR, n6]
  · have ek6 : ∀ b, b < a + 7 → kd h6 b = kd h3 b ∧ ln h6 b = ln h3 b := fun b hb => by
      rw [(K6.1 b (by omega)).1, (K6.1 b (by omega)).2, kd5, if_neg (by omega), ln5 b (by omega)]
      exact ⟨rfl, rfl⟩
    refine ⟨?_, ?_, ?_, ?_, ?_, ?_, ?_, ?_, ?_, fun k p1 p2 p3 p4 => ?_, fun k => ?_⟩
    · rw [kd_sR, (ek6 a (by omega)).1, kd3 _ (by omega), kd2, if_neg (by omega)]; exact hk
    · rw [gR_sR, if_neg (by omega), (x46 a 4 (by omega)).2.1]; exact r4
    · rw [gR_sR, if_pos ⟨rfl, rfl⟩]
    · refine Q3.keep ?_ (fun b p r => by rw [kd_sR, ln_sR]; exact ek6 b (by omega))
      have z1 : Sm (fun b => a + 1 ≤ b ∧ b < a + 1 + 6) h3 h4 := (Sm.refl h3).fr F4 (fun b k q w => by omega) (fun b k q w => by omega) (fun _ _ _ w => w)
      exact (z1.trans (x46.mono fun b q => by omega)).sR _ _ (by omega)
    · rw [kd_sR, (ek6 _ (by omega)).1, kd3 _ (by omega), kd2, if_pos rfl]
    · rw [kd_sR, (K6.1 _ (by omega)).1, kd5, if_pos rfl]
    · rw [gR_sR, if_neg (by omega)]; exact t1
    · rw [kd_sR]; exact t2
    · rw [ln_sR]; exact t3
    · rw [gI_sR, (x46 a k (by omega)).1]; exact z4 k p1 p2 p3 p4
    · rw [gL_sR]; exact t4 k
end IN2
