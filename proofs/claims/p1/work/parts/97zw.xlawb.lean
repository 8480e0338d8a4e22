/-! xlawb: in values: the start of both sides -/
def N9 (a : Nat) (h : Hp) : Prop := gI h a 5 = 0 ∧ gI h a 8 = -1 ∧ gI h a 9 = 0
theorem N9.keep {a : Nat} {h h' : Hp} (q : N9 a h) (x : Sm (fun b => a ≤ b ∧ b < a + 9) h h') : N9 a h' := ⟨(x a 5 (by omega)).1.trans q.1, (x a 8 (by omega)).1.trans q.2.1, (x a 9 (by omega)).1.trans q.2.2⟩
def F9 (h : Hp) : Prop := ∀ i, i < 8 → ∀ k, k < 4 → gR h (7 + 9 * i) k = some (8 + 9 * i + k)
def T9 (h : Hp) : Prop := ∀ i j, i < 8 → j < 8 → gI h (79 + i) j = -1 ∧ gI h (97 + i) j = -1
/-- what a new country keeps -/
def C9 (h : Hp) : Prop := (∀ i, i < 8 → N9 (5 + 9 * i) h) ∧ F9 h ∧ T9 h ∧ (∀ i j, i < 8 → j < 8 → gI h (88 + i) j = -1 ∧ gI h (106 + i) j = -1) ∧ (gI h 114 2 = 0 ∧ gI h 114 3 = 41 ∧ gI h 114 4 = 0 ∧ gI h 114 5 = 0 ∧ gI h 114 6 = 0) ∧ gI h 77 5 = 0 ∧ gI h 115 8 = 0
section XLB
variable {a n c : Nat} {h h' : Hp}
theorem q_nodeInit9 (hk : kd h a = kc_Node) (hn : nx h = a + 1) (ha : a ≤ 900) (hs : sc h ≤ 40000) : ∃ h', (∀ Q, WP Gm j_Node_init 0 [some (.inr (.inl (some a)))] [] h Q = Q (.inl none) h') ∧ Sm (fun b => b < a) h h' ∧ Km 40 h h' ∧ nx h' = a + 9 ∧ N9 a h' := by
  have k0 : isK h a kc_Node = true := isK_of (by omega) hk
  generalize hh1 : sI (sI (sI (sI h a 0 0) a 1 0) a 2 0) a 3 0 = h1
  have F1 : Fr (fun b _ => b = a) nW nW h h1 := by rw [← hh1]; exact ((((Fr.refl (WI := fun b _ => b = a) (WR := nW) (WL := nW) h).sI _ rfl).sI _ rfl).sI _ rfl).sI _ rfl
  have n1 : nx h1 = a + 1 := by rw [F1.2.2.2.2.2.1, hn]
  have s1 : sc h1 = sc h := F1.2.2.2.2.2.2
  have kd1 : ∀ b, kd h1 b = kd h b := F1.2.2.2.1
  generalize hh2 : hN h1 kc_FrameQueue 0 2 = h2
  have n2 : nx h2 = a + 2 := by rw [← hh2, nx_hN, n1]
  have s2 : sc h2 = sc h + 2 := by rw [← hh2, sc_hN, s1]
  have kd2 : ∀ b, kd h2 b = if b = a + 1 then kc_FrameQueue else kd h b := fun b => by rw [← hh2, kd_hN, n1, kd1]
  have hr1 : okR cM sM h1 1 2 = true := ok_small (by omega) (by omega) (by omega) (by omega)
  have kq : isK h2 (a + 1) kc_FrameQueue = true := isK_of (by omega) (by rw [kd2, if_pos rfl])
  obtain ⟨h3, e3, S3, K3, n3, Q3⟩ := q_queueInit (h := h2) (a := a + 1) (by rw [kd2, if_pos rfl]) n2 (by omega) (by omega)
  have hK3 := K3.2.2
  have kd3 : ∀ b, b < a + 2 → kd h3 b = kd h2 b := fun b hb => (K3.1 b (by omega)).1
  have kn3 : isK h3 a kc_Node = true := isK_of (by omega) (by rw [kd3 _ (by omega), kd2, if_neg (by omega)]; exact hk)
  generalize hh4 : sI (sI (sI (sI (sI (sI (sI (sI (sI (sI (sR h3 a 4 (some (a + 1))) a 5 0) a 6 0) a 7 0) a 8 (-1)) a 9 0) a 10 0) a 11 0) a 12 0) a 13 0) a 14 0 = h4
  have F4 : Fr (fun b _ => b = a) (fun b _ => b = a) nW h3 h4 := by
    rw [← hh4]
    exact (((((((((((Fr.refl (WI := fun b _ => b = a) (WR := fun b _ => b = a) (WL := nW) h3).sR _ rfl).sI _ rfl).sI _ rfl).sI _ rfl).sI _ rfl).sI _ rfl).sI _ rfl).sI _ rfl).sI _ rfl).sI _ rfl).sI _ rfl
  have z4 : ∀ k, 6 ≤ k → k < 15 → k ≠ 8 → k ≠ 9 → gI h4 a k = 0 := by
    intro k p1 p2 p3 p4
    rw [← hh4]
    have : k = 6 ∨ k = 7 ∨ k = 10 ∨ k = 11 ∨ k = 12 ∨ k = 13 ∨ k = 14 := by omega
    rcases this with rfl | rfl | rfl | rfl | rfl | rfl | rfl <;> simp [gI_sI]
  have z5 : N9 a h4 := by
    unfold N9
    rw [← hh4]
    refine ⟨?_, ?_, ?_⟩ <;> simp [gI_sI]
  have r4 : gR h4 a 4 = some (a + 1) := by rw [← hh4]; simp only [gR_sI]; rw [gR_sR, if_pos ⟨rfl, rfl⟩]
  have n4 : nx h4 = a + 7 := by rw [F4.2.2.2.2.2.1, n3]
  have s4 : sc h4 ≤ sc h + 26 := by rw [F4.2.2.2.2.2.2]; omega
  have hr4 : okR cM sM h4 1 1 = true := ok_small (by omega) (by omega) (by omega) (by omega)
  generalize hh5 : hN h4 kc_NumberSet 0 1 = h5
  have n5 : nx h5 = a + 8 := by rw [← hh5, nx_hN, n4]
  have s5 : sc h5 ≤ sc h + 27 := by rw [← hh5, sc_hN]; omega
  have kd5 : ∀ b, kd h5 b = if b = a + 7 then kc_NumberSet else kd h3 b := fun b => by rw [← hh5, kd_hN, n4, F4.2.2.2.1]
  have ln5 : ∀ b, b ≠ a + 7 → ln h5 b = ln h3 b := fun b hb => by rw [← hh5, ln_hN, n4, if_neg hb, F4.2.2.2.2.1]
  have ks : isK h5 (a + 7) kc_NumberSet = true := isK_of (by omega) (by rw [kd5, if_pos rfl])
  obtain ⟨h6, e6, S6, K6, n6, t1, t2, t3, t4⟩ := q_setInit (h := h5) (a := a + 7) (by rw [kd5, if_pos rfl]) n5 (by omega) (by omega)
  have hK6 := K6.2.2
  have kn6 : isK h6 a kc_Node = true := isK_of (by omega) (by rw [(K6.1 a (by omega)).1, kd5, if_neg (by omega), kd3 _ (by omega), kd2, if_neg (by omega)]; exact hk)
  have x45 : Sm (fun b => b < a + 7) h4 h5 := by rw [← hh5]; exact (Sm.refl h4).hN _ _ _ (by omega)
  have x46 : Sm (fun b => b < a + 7) h4 h6 := x45.trans S6
  refine ⟨sR h6 a 15 (some (a + 7)), fun Q => ?_, ?_, ?_, ?_, ?_⟩
  · simp only [↓e_Node_init_0, ↓e_Node_init_1, ↓e_Node_init_4, ↓e_Node_init_5, ↓e_Node_init_6, ↓e_Node_init_9, ↓e_Node_init_10, ↓e_Node_init_11, ↓e_Node_init_14, ↓e_Node_init_15, ↓e_Node_init_16, ↓e_Node_init_19, ↓e_Node_init_20, ↓e_Node_init_21, ↓e_Node_init_24, ↓e_Node_init_25, ↓e_Node_init_28, ↓e_Node_init_29, ↓e_Node_init_32, ↓e_Node_init_35, ↓e_Node_init_36, ↓e_Node_init_37, ↓e_Node_init_40, ↓e_Node_init_41, ↓e_Node_init_42, ↓e_Node_init_45, ↓e_Node_init_46, ↓e_Node_init_47, ↓e_Node_init_50, ↓e_Node_init_51, ↓e_Node_init_52, ↓e_Node_init_55, ↓e_Node_init_56, ↓e_Node_init_57, ↓e_Node_init_60, ↓e_Node_init_61, ↓e_Node_init_62, ↓e_Node_init_65, ↓e_Node_init_66, ↓e_Node_init_67, ↓e_Node_init_70, ↓e_Node_init_71, ↓e_Node_init_72, ↓e_Node_init_75, ↓e_Node_init_76, ↓e_Node_init_77, ↓e_Node_init_80, ↓e_Node_init_81, ↓e_Node_init_82, ↓e_Node_init_85, ↓e_Node_init_86, ↓e_Node_init_89, ↓e_Node_init_90, ↓e_Node_init_93, ↓e_Node_init_96, not_true_eq_false, not_false_eq_true, one0, true_or, or_true, eq_self, bI_z, bI_nz, bI_o, b_ft, bI_1, bI_0, ↓kC_l, ↓kC_r, Option.toList_some, Option.toList_none, List.cons_append, List.nil_append, s1_0, s1_1i, s1_1r, s1_1w, s1_1n, s1_s, s2_0, s2_1i, s2_1r, s2_1w, s2_1n, s2_s, gI_sI, gI_sR, gI_sL, gI_sD, gR_sI, gR_sR, gR_sL, gR_sD, gL_sI, gL_sR, gL_sL, gL_sD, gD_sI, gD_sR, gD_sL, gD_sD, isK_sI, isK_sR, isK_sL, isK_sD, inL_sI, inL_sR, inL_sL, inL_sD, nx_sI, nx_sR, nx_sL, nx_sD, kd_sI, kd_sR, kd_sL, kd_sD, ln_sI, ln_sR, ln_sL, ln_sD, ↓reduceIte, c8_n, c8_1, c8_2, c8_3, c8_4, Nat.reduceAdd, k0, hh1, hr1, n1, hh2, kq, e3, kn3, hh4, hr4, n4, hh5, ks, e6, kn6]
  · have y1 : Sm (fun b => b < a) h h2 := by rw [← hh2]; exact ((Sm.refl h).fr F1 (fun b k q w => by omega) (fun _ _ _ w => w) (fun _ _ _ w => w)).hN _ _ _ (by omega)
    have y2 : Sm (fun b => b < a) h h4 := (y1.trans (S3.mono fun b q => by omega)).fr F4 (fun b k q w => by omega) (fun b k q w => by omega) (fun _ _ _ w => w)
    exact (y2.trans (x46.mono fun b q => by omega)).sR _ _ (by omega)
  · have m2 : Km 2 h h2 := by rw [← hh2]; exact ((Km.refl h).fr F1).hN _ _ _
    have m4 : Km 26 h h4 := ((m2.trans K3).fr F4).le (by omega)
    have m5 : Km 27 h h5 := by rw [← hh5]; exact m4.hN _ _ _
    exact ((m5.trans K6).sR _ _).le (by omega)
  · rw [nx_sR, n6]
  · exact ⟨by rw [gI_sR, (x46 a 5 (by omega)).1]; exact z5.1, by rw [gI_sR, (x46 a 8 (by omega)).1]; exact z5.2.1, by rw [gI_sR, (x46 a 9 (by omega)).1]; exact z5.2.2⟩
theorem q_landInit9 (hk : kd h 2 = kc_Land) (hn : nx h = 3) (hs : sc h ≤ 1000) : ∃ h', (∀ Q, WP Gm j_Land_init 0 [some (.inr (.inl (some 2))), none] [] h Q = Q (.inl none) h') ∧ Sm (fun b => b < 2) h h' ∧ Km 464 h h' ∧ nx h' = 77 ∧ LD 8 h' ∧ ∀ i, i < 8 → N9 (5 + 9 * i) h' := by
  generalize hg1 : sR (hN h 102 8 8) 2 0 (some 3) = g1
  have n1 : nx g1 = 4 := by rw [← hg1, nx_sR, nx_hN, hn]
  have sc1 : sc g1 = sc h + 8 := by rw [← hg1]; rfl
  have kd1 : ∀ b, kd g1 b = if b = 3 then 102 else kd h b := fun b => by rw [← hg1, kd_sR, kd_hN, hn]
  have ln1 : ∀ b, ln g1 b = if b = 3 then 8 else ln h b := fun b => by rw [← hg1, ln_sR, ln_hN, hn]
  have r1 : gR g1 2 0 = some 3 := by rw [← hg1, gR_sR, if_pos ⟨rfl, rfl⟩]
  generalize hg0 : sI (sR (hN g1 100 8 8) 2 1 (some 4)) 2 2 0 = g0
  have n0 : nx g0 = 5 := by rw [← hg0, nx_sI, nx_sR, nx_hN, n1]
  have kd0 : ∀ b, kd g0 b = if b = 4 then 100 else kd g1 b := fun b => by rw [← hg0, kd_sI, kd_sR, kd_hN, n1]
  have ln0 : ∀ b, ln g0 b = if b = 4 then 8 else ln g1 b := fun b => by rw [← hg0, ln_sI, ln_sR, ln_hN, n1]
  have s0 : Sm (fun b => b < 2) h g0 := by
    have x1 : Sm (fun b => b < 2) h g1 := by rw [← hg1]; exact ((Sm.refl h).hN _ _ _ (by omega)).sR _ _ (by omega)
    rw [← hg0]
    exact ((x1.hN _ _ _ (by omega)).sR _ _ (by omega)).sI _ _ (by omega)
  have m0 : Km 16 h g0 := by
    have x1 : Km 8 h g1 := by rw [← hg1]; exact ((Km.refl h).hN 102 8 8).sR _ _
    rw [← hg0]
    exact ((x1.hN 100 8 8).sR _ _).sI _ _
  have d0 : LD 0 g0 := by
    refine ⟨by rw [kd0, if_neg (by omega), kd1, if_neg (by omega)]; exact hk, ?_, ?_, ?_, by rw [kd0, if_neg (by omega), kd1, if_pos rfl], by rw [ln0, if_neg (by omega), ln1, if_pos rfl], by rw [kd0, if_pos rfl], by rw [ln0, if_pos rfl], fun k => ?_, fun i hi => absurd hi (by omega)⟩
    · rw [← hg0, gR_sI, gR_sR, if_neg (by omega), gR_hN, n1, if_neg (by omega)]; exact r1
    · rw [← hg0, gR_sI, gR_sR, if_pos ⟨rfl, rfl⟩]
    · rw [← hg0, gI_sI, if_pos ⟨rfl, rfl⟩]
    · rw [← hg0, gI_sI, if_neg (by omega), gI_sR, gI_hN, n1, if_pos rfl]
  obtain ⟨g, e1, gs, gm, gn, gd, g9⟩ := loopR (fun Q k (g : Hp) => WP Gm j_Land_init 28 [some (.inr (.inl (some 2))), some (.inl (ii k))] [] g Q)
    (fun k g => Sm (fun b => b < 2) h g ∧ Km (16 + 56 * k) h g ∧ nx g = 5 + 9 * k ∧ LD k g ∧ ∀ i, i < k → N9 (5 + 9 * i) g) 8
    (fun k g hk8 hI => by
      obtain ⟨gs, gm, gn, gd, g9⟩ := hI
      obtain ⟨q1, q2, q3, q4, q5, q6, q7, q8, q9, q10⟩ := id gd
      have hsc := gm.2.2
      have f1 : isK g 2 kc_Land = true := isK_of (by omega) q1
      have hr : okR cM sM g 1 16 = true := ok_small (by omega) (by omega) (by omega) (by omega)
      generalize hu : hN g kc_Node 0 16 = u
      have nu : nx u = 5 + 9 * k + 1 := by rw [← hu, nx_hN, gn]
      have su : sc u = sc g + 16 := by rw [← hu, sc_hN]
      have kdu : ∀ b, kd u b = if b = 5 + 9 * k then kc_Node else kd g b := fun b => by rw [← hu, kd_hN, gn]
      have lnu : ∀ b, ln u b = if b = 5 + 9 * k then 0 else ln g b := fun b => by rw [← hu, ln_hN, gn]
      have f2 : isK u (5 + 9 * k) kc_Node = true := isK_of (by omega) (by rw [kdu, if_pos rfl])
      obtain ⟨w, e2, S2, K2, n2, N2⟩ := q_nodeInit (h := u) (a := 5 + 9 * k) (by rw [kdu, if_pos rfl]) nu (by omega) (by omega)
      obtain ⟨w', e2', -, -, -, N3⟩ := q_nodeInit9 (h := u) (a := 5 + 9 * k) (by rw [kdu, if_pos rfl]) nu (by omega) (by omega)
      obtain ⟨-, rfl⟩ := det e2 e2'
      have kw : ∀ b, b < 5 + 9 * k → kd w b = kd g b ∧ ln w b = ln g b := fun b hb => by
        rw [(K2.1 b (by omega)).1, (K2.1 b (by omega)).2, kdu, if_neg (by omega), lnu, if_neg (by omega)]
        exact ⟨rfl, rfl⟩
      have xw : Sm (fun b => b < 5 + 9 * k) g w := by
        have x1 : Sm (fun b => b < 5 + 9 * k) g u := by rw [← hu]; exact (Sm.refl g).hN _ _ _ (by omega)
        exact x1.trans S2
      have f3 : isK w 3 102 = true := isK_of (by omega) (by rw [(kw 3 (by omega)).1]; exact q5)
      have f4 : inL w 3 (ii k) = true := inL_n (by omega) (by rw [(kw 3 (by omega)).2, q6]; exact hk8)
      have f5 : isK w (5 + 9 * k) kc_Node = true := isK_of (by omega) N2.1
      have hle : ((8 : Int32) ≤ ii k) = False := lle_f (n := 8) (by omega) hk8
      refine ⟨sR w 3 k (some (5 + 9 * k)), fun Q => ?_, ?_, ?_, ?_, ⟨?_, ?_, ?_, ?_, ?_, ?_, ?_, ?_, fun j => ?_, fun i hi => ⟨?_, ?_⟩⟩, fun i hi => ?_⟩
      · rw [e_Land_init_28]
        simp only [↓e_Land_init_0, ↓e_Land_init_1, ↓e_Land_init_4, ↓e_Land_init_5, ↓e_Land_init_7, ↓e_Land_init_10, ↓e_Land_init_13, ↓e_Land_init_14, ↓e_Land_init_16, ↓e_Land_init_18, ↓e_Land_init_21, ↓e_Land_init_22, ↓e_Land_init_23, ↓e_Land_init_26, ↓e_Land_init_27, ↓e_Land_init_29, ↓e_Land_init_31, ↓e_Land_init_34, ↓e_Land_init_35, ↓e_Land_init_38, ↓e_Land_init_39, ↓e_Land_init_42, ↓e_Land_init_43, ↓e_Land_init_46, ↓e_Land_init_47, ↓e_Land_init_50, ↓e_Land_init_53, not_true_eq_false, not_false_eq_true, one0, true_or, or_true, eq_self, bI_z, bI_nz, bI_o, b_ft, bI_1, bI_0, ↓kC_l, ↓kC_r, Option.toList_some, Option.toList_none, List.cons_append, List.nil_append, s1_0, s1_1i, s1_1r, s1_1w, s1_1n, s1_s, s2_0, s2_1i, s2_1r, s2_1w, s2_1n, s2_s, gI_sI, gI_sR, gI_sL, gI_sD, gR_sI, gR_sR, gR_sL, gR_sD, gL_sI, gL_sR, gL_sL, gL_sD, gD_sI, gD_sR, gD_sL, gD_sD, isK_sI, isK_sR, isK_sL, isK_sD, inL_sI, inL_sR, inL_sL, inL_sD, nx_sI, nx_sR, nx_sL, nx_sD, kd_sI, kd_sR, kd_sL, kd_sD, ln_sI, ln_sR, ln_sL, ln_sD, ↓reduceIte, c8_n, c8_1, c8_2, c8_3, c8_4, Nat.reduceAdd, hle, f1, q2, hr, hu, gn, f2, e2, f3, f4, f5, ii_nat (show k < 2147483648 by omega), ii_succ]
      · exact (gs.trans (xw.mono fun b q => by omega)).sR _ _ (by omega)
      · have m1 : Km (16 + 56 * k + 16) h u := by rw [← hu]; exact gm.hN _ _ _
        exact ((m1.trans K2).sR _ _).le (by omega)
      · rw [nx_sR, n2]; omega
      · rw [kd_sR, (kw 2 (by omega)).1]; exact q1
      · rw [gR_sR, if_neg (by omega), (xw 2 0 (by omega)).2.1]; exact q2
      · rw [gR_sR, if_neg (by omega), (xw 2 1 (by omega)).2.1]; exact q3
      · rw [gI_sR, (xw 2 2 (by omega)).1]; exact q4
      · rw [kd_sR, (kw 3 (by omega)).1]; exact q5
      · rw [ln_sR, (kw 3 (by omega)).2]; exact q6
      · rw [kd_sR, (kw 4 (by omega)).1]; exact q7
      · rw [ln_sR, (kw 4 (by omega)).2]; exact q8
      · rw [gI_sR, (xw 4 j (by omega)).1]; exact q9 j
      · rw [gR_sR]
        by_cases e : i = k
        · rw [if_pos ⟨rfl, e⟩, e]
        · rw [if_neg (fun q => e q.2), (xw 3 i (by omega)).2.1]
          exact (q10 i (by omega)).1
      · by_cases e : i = k
        · subst e
          exact N2.keep ((Sm.refl w).sR _ _ (by omega)) (fun b _ _ => ⟨rfl, rfl⟩)
        · refine (q10 i (by omega)).2.keep ((xw.mono fun b q => by omega).sR _ _ (by omega)) (fun b p r => ?_)
          rw [kd_sR, ln_sR]
          exact kw b (by omega)
      · by_cases e : i = k
        · subst e
          exact N3.keep ((Sm.refl w).sR _ _ (by omega))
        · exact (g9 i (by omega)).keep ((xw.mono fun b q => by omega).sR _ _ (by omega))) 8 0 g0 (by omega) ⟨s0, m0, n0, d0, fun i hi => absurd hi (by omega)⟩
  refine ⟨g, fun Q => ?_, gs, gm, gn, gd, g9⟩
  have t8 : Int32.toNatClampNeg 8 = 8 := by decide
  have hi : (0 : Int32) ≤ 8 ∧ (8 : Int32).toNatClampNeg ≤ 1000000 := by decide
  have hr : okR cM sM h 1 (Int32.toNatClampNeg 8) = true := ok_small (by omega) (by omega) (by omega) (by decide)
  have hr1 : okR cM sM g1 1 (Int32.toNatClampNeg 8) = true := ok_small (by omega) (by omega) (by omega) (by decide)
  have f1 : isK (hN h 102 8 8) 2 kc_Land = true := isK_of (by rw [nx_hN]; omega) (by rw [kd_hN, if_neg (by omega)]; exact hk)
  have f2 : isK (hN g1 100 8 8) 2 kc_Land = true := isK_of (by rw [nx_hN]; omega) (by rw [kd_hN, if_neg (by omega), kd1, if_neg (by omega)]; exact hk)
  have pre : WP Gm j_Land_init 0 [some (.inr (.inl (some 2))), none] [] h Q = WP Gm j_Land_init 28 [some (.inr (.inl (some 2))), some (.inl (ii 0))] [] g0 Q := by
    simp only [↓e_Land_init_0, ↓e_Land_init_1, ↓e_Land_init_4, ↓e_Land_init_5, ↓e_Land_init_10, ↓e_Land_init_13, ↓e_Land_init_14, ↓e_Land_init_18, ↓e_Land_init_21, ↓e_Land_init_22, ↓e_Land_init_23, ↓e_Land_init_26, ↓e_Land_init_27, ↓e_Land_init_29, ↓e_Land_init_31, ↓e_Land_init_34, ↓e_Land_init_35, ↓e_Land_init_38, ↓e_Land_init_39, ↓e_Land_init_42, ↓e_Land_init_43, ↓e_Land_init_46, ↓e_Land_init_47, ↓e_Land_init_50, ↓e_Land_init_53, not_true_eq_false, not_false_eq_true, one0, true_or, or_true, eq_self, bI_z, bI_nz, bI_o, b_ft, bI_1, bI_0, ↓kC_l, ↓kC_r, Option.toList_some, Option.toList_none, List.cons_append, List.nil_append, s1_0, s1_1i, s1_1r, s1_1w, s1_1n, s1_s, s2_0, s2_1i, s2_1r, s2_1w, s2_1n, s2_s, gI_sI, gI_sR, gI_sL, gI_sD, gR_sI, gR_sR, gR_sL, gR_sD, gL_sI, gL_sR, gL_sL, gL_sD, gD_sI, gD_sR, gD_sL, gD_sD, isK_sI, isK_sR, isK_sL, isK_sD, inL_sI, inL_sR, inL_sL, inL_sD, nx_sI, nx_sR, nx_sL, nx_sD, kd_sI, kd_sR, kd_sL, kd_sD, ln_sI, ln_sR, ln_sL, ln_sD, ↓reduceIte, c8_n, c8_1, c8_2, c8_3, c8_4, Nat.reduceAdd]
    rw [e_Land_init_7 (i := 8) (hi := hi) (hr := hr)]
    simp only [↓e_Land_init_0, ↓e_Land_init_1, ↓e_Land_init_4, ↓e_Land_init_5, ↓e_Land_init_10, ↓e_Land_init_13, ↓e_Land_init_14, ↓e_Land_init_18, ↓e_Land_init_21, ↓e_Land_init_22, ↓e_Land_init_23, ↓e_Land_init_26, ↓e_Land_init_27, ↓e_Land_init_29, ↓e_Land_init_31, ↓e_Land_init_34, ↓e_Land_init_35, ↓e_Land_init_38, ↓e_Land_init_39, ↓e_Land_init_42, ↓e_Land_init_43, ↓e_Land_init_46, ↓e_Land_init_47, ↓e_Land_init_50, ↓e_Land_init_53, not_true_eq_false, not_false_eq_true, one0, true_or, or_true, eq_self, bI_z, bI_nz, bI_o, b_ft, bI_1, bI_0, ↓kC_l, ↓kC_r, Option.toList_some, Option.toList_none, List.cons_append, List.nil_append, s1_0, s1_1i, s1_1r, s1_1w, s1_1n, s1_s, s2_0, s2_1i, s2_1r, s2_1w, s2_1n, s2_s, gI_sI, gI_sR, gI_sL, gI_sD, gR_sI, gR_sR, gR_sL, gR_sD, gL_sI, gL_sR, gL_sL, gL_sD, gD_sI, gD_sR, gD_sL, gD_sD, isK_sI, isK_sR, isK_sL, isK_sD, inL_sI, inL_sR, inL_sL, inL_sD, nx_sI, nx_sR, nx_sL, nx_sD, kd_sI, kd_sR, kd_sL, kd_sD, ln_sI, ln_sR, ln_sL, ln_sD, ↓reduceIte, c8_n, c8_1, c8_2, c8_3, c8_4, Nat.reduceAdd, t8, hn, f1, hg1]
    rw [e_Land_init_16 (i := 8) (hi := hi) (hr := hr1)]
    simp only [↓e_Land_init_0, ↓e_Land_init_1, ↓e_Land_init_4, ↓e_Land_init_5, ↓e_Land_init_10, ↓e_Land_init_13, ↓e_Land_init_14, ↓e_Land_init_18, ↓e_Land_init_21, ↓e_Land_init_22, ↓e_Land_init_23, ↓e_Land_init_26, ↓e_Land_init_27, ↓e_Land_init_29, ↓e_Land_init_31, ↓e_Land_init_34, ↓e_Land_init_35, ↓e_Land_init_38, ↓e_Land_init_39, ↓e_Land_init_42, ↓e_Land_init_43, ↓e_Land_init_46, ↓e_Land_init_47, ↓e_Land_init_50, ↓e_Land_init_53, not_true_eq_false, not_false_eq_true, one0, true_or, or_true, eq_self, bI_z, bI_nz, bI_o, b_ft, bI_1, bI_0, ↓kC_l, ↓kC_r, Option.toList_some, Option.toList_none, List.cons_append, List.nil_append, s1_0, s1_1i, s1_1r, s1_1w, s1_1n, s1_s, s2_0, s2_1i, s2_1r, s2_1w, s2_1n, s2_s, gI_sI, gI_sR, gI_sL, gI_sD, gR_sI, gR_sR, gR_sL, gR_sD, gL_sI, gL_sR, gL_sL, gL_sD, gD_sI, gD_sR, gD_sL, gD_sD, isK_sI, isK_sR, isK_sL, isK_sD, inL_sI, inL_sR, inL_sL, inL_sD, nx_sI, nx_sR, nx_sL, nx_sD, kd_sI, kd_sR, kd_sL, kd_sD, ln_sI, ln_sR, ln_sL, ln_sD, ↓reduceIte, c8_n, c8_1, c8_2, c8_3, c8_4, Nat.reduceAdd, t8, n1, f2, hg0]
    rfl
  rw [pre]
  refine (e1 Q).trans ?_
  rw [e_Land_init_28]
  simp only [↓e_Land_init_0, ↓e_Land_init_1, ↓e_Land_init_4, ↓e_Land_init_5, ↓e_Land_init_7, ↓e_Land_init_10, ↓e_Land_init_13, ↓e_Land_init_14, ↓e_Land_init_16, ↓e_Land_init_18, ↓e_Land_init_21, ↓e_Land_init_22, ↓e_Land_init_23, ↓e_Land_init_26, ↓e_Land_init_27, ↓e_Land_init_29, ↓e_Land_init_31, ↓e_Land_init_34, ↓e_Land_init_35, ↓e_Land_init_38, ↓e_Land_init_39, ↓e_Land_init_42, ↓e_Land_init_43, ↓e_Land_init_46, ↓e_Land_init_47, ↓e_Land_init_50, ↓e_Land_init_53, not_true_eq_false, not_false_eq_true, one0, true_or, or_true, eq_self, bI_z, bI_nz, bI_o, b_ft, bI_1, bI_0, ↓kC_l, ↓kC_r, Option.toList_some, Option.toList_none, List.cons_append, List.nil_append, s1_0, s1_1i, s1_1r, s1_1w, s1_1n, s1_s, s2_0, s2_1i, s2_1r, s2_1w, s2_1n, s2_s, gI_sI, gI_sR, gI_sL, gI_sD, gR_sI, gR_sR, gR_sL, gR_sD, gL_sI, gL_sR, gL_sL, gL_sD, gD_sI, gD_sR, gD_sL, gD_sD, isK_sI, isK_sR, isK_sL, isK_sD, inL_sI, inL_sR, inL_sL, inL_sD, nx_sI, nx_sR, nx_sL, nx_sD, kd_sI, kd_sR, kd_sL, kd_sD, ln_sI, ln_sR, ln_sL, ln_sD, ↓reduceIte, c8_n, c8_1, c8_2, c8_3, c8_4, Nat.reduceAdd, (show ((8 : Int32) ≤ ii 8) = True from eq_true (by decide))]
theorem q_routesInit9 (hk : kd h 77 = kc_Routes) (hn : nx h = 78) (hs : sc h ≤ 1000) : ∃ h', (∀ Q, WP Gm j_Routes_init 0 [some (.inr (.inl (some 77))), some (.inr (.inl (some 2))), none, none] [] h Q = Q (.inl none) h') ∧ Sm (fun b => b < 77) h h' ∧ Km 288 h h' ∧ nx h' = 114 ∧ T9 h' ∧ gI h' 77 5 = 0 := by
  obtain ⟨T1, S1, K1, n1⟩ := tb_make hn
  generalize hm1 : hM h 4 0 8 8 = m1 at T1 S1 K1 n1
  generalize hh1 : sR m1 77 1 (some 78) = h1
  have nh1 : nx h1 = 87 := by rw [← hh1, nx_sR, n1]
  obtain ⟨T2, S2, K2, n2⟩ := tb_make nh1
  generalize hm2 : hM h1 4 0 8 8 = m2 at T2 S2 K2 n2
  generalize hh2 : sR m2 77 2 (some 87) = h2
  have nh2 : nx h2 = 96 := by rw [← hh2, nx_sR, n2]
  obtain ⟨T3, S3, K3, n3⟩ := tb_make nh2
  generalize hm3 : hM h2 4 0 8 8 = m3 at T3 S3 K3 n3
  generalize hh3 : sR m3 77 3 (some 96) = h3
  have nh3 : nx h3 = 105 := by rw [← hh3, nx_sR, n3]
  obtain ⟨T4, S4, K4, n4⟩ := tb_make nh3
  generalize hm4 : hM h3 4 0 8 8 = m4 at T4 S4 K4 n4
  generalize hg0 : sR (sI (sR m4 77 4 (some 105)) 77 5 0) 77 0 (some 2) = g0
  have y1 : Sm (fun b => 78 ≤ b) m1 h1 := by rw [← hh1]; exact (Sm.refl m1).sR _ _ (by omega)
  have y2 : Sm (fun b => 78 ≤ b) m2 h2 := by rw [← hh2]; exact (Sm.refl m2).sR _ _ (by omega)
  have y3 : Sm (fun b => 78 ≤ b) m3 h3 := by rw [← hh3]; exact (Sm.refl m3).sR _ _ (by omega)
  have y4 : Sm (fun b => 78 ≤ b) m4 g0 := by rw [← hg0]; exact (((Sm.refl m4).sR _ _ (by omega)).sI _ _ (by omega)).sR _ _ (by omega)
  have k1 : ∀ b, kd h1 b = kd m1 b ∧ ln h1 b = ln m1 b := fun b => by rw [← hh1]; exact ⟨rfl, rfl⟩
  have k2 : ∀ b, kd h2 b = kd m2 b ∧ ln h2 b = ln m2 b := fun b => by rw [← hh2]; exact ⟨rfl, rfl⟩
  have k3 : ∀ b, kd h3 b = kd m3 b ∧ ln h3 b = ln m3 b := fun b => by rw [← hh3]; exact ⟨rfl, rfl⟩
  have k4 : ∀ b, kd g0 b = kd m4 b ∧ ln g0 b = ln m4 b := fun b => by rw [← hg0]; exact ⟨rfl, rfl⟩
  have sc1 : sc h1 = sc m1 := by rw [← hh1]; rfl
  have sc2 : sc h2 = sc m2 := by rw [← hh2]; rfl
  have sc3 : sc h3 = sc m3 := by rw [← hh3]; rfl
  have z1 : Km 72 h h1 := by rw [← hh1]; exact K1.sR _ _
  have z2 : Km 144 h h2 := by rw [← hh2]; exact ((z1.trans K2).sR _ _).le (by omega)
  have z3 : Km 216 h h3 := by rw [← hh3]; exact ((z2.trans K3).sR _ _).le (by omega)
  have z4 : Km 288 h g0 := by rw [← hg0]; exact ((((z3.trans K4).sR _ _).sI _ _).sR _ _).le (by omega)
  have w1 : Sm (fun b => b < 77) h h1 := by rw [← hh1]; exact (S1.mono fun b q => by omega).sR _ _ (by omega)
  have w2 : Sm (fun b => b < 77) h h2 := by rw [← hh2]; exact (w1.trans (S2.mono fun b q => by omega)).sR _ _ (by omega)
  have w3 : Sm (fun b => b < 77) h h3 := by rw [← hh3]; exact (w2.trans (S3.mono fun b q => by omega)).sR _ _ (by omega)
  have w4 : Sm (fun b => b < 77) h g0 := by rw [← hg0]; exact (((w3.trans (S4.mono fun b q => by omega)).sR _ _ (by omega)).sI _ _ (by omega)).sR _ _ (by omega)
  have p0 : gR g0 77 0 = some 2 := by rw [← hg0, gR_sR, if_pos ⟨rfl, rfl⟩]
  have p4 : gR g0 77 4 = some 105 := by rw [← hg0, gR_sR, if_neg (by omega), gR_sI, gR_sR, if_pos ⟨rfl, rfl⟩]
  have e4 : ∀ k, k ≠ 0 → k ≠ 4 → gR g0 77 k = gR h3 77 k := fun k a1 a2 => by rw [← hg0, gR_sR, if_neg (by omega), gR_sI, gR_sR, if_neg (by omega), (S4 77 k (by omega)).2.1]
  have e3 : ∀ k, k ≠ 3 → gR h3 77 k = gR h2 77 k := fun k a1 => by rw [← hh3, gR_sR, if_neg (by omega), (S3 77 k (by omega)).2.1]
  have e2 : ∀ k, k ≠ 2 → gR h2 77 k = gR h1 77 k := fun k a1 => by rw [← hh2, gR_sR, if_neg (by omega), (S2 77 k (by omega)).2.1]
  have p3 : gR g0 77 3 = some 96 := by rw [e4 _ (by omega) (by omega), ← hh3, gR_sR, if_pos ⟨rfl, rfl⟩]
  have p2 : gR g0 77 2 = some 87 := by rw [e4 _ (by omega) (by omega), e3 _ (by omega), ← hh2, gR_sR, if_pos ⟨rfl, rfl⟩]
  have p1 : gR g0 77 1 = some 78 := by rw [e4 _ (by omega) (by omega), e3 _ (by omega), e2 _ (by omega), ← hh1, gR_sR, if_pos ⟨rfl, rfl⟩]
  have a4 : TB 105 g0 := T4.keep (y4.mono fun b q => by omega) (fun b _ _ => k4 b)
  have b3 : TB 96 h3 := T3.keep (y3.mono fun b q => by omega) (fun b _ _ => k3 b)
  have b2 : TB 87 h2 := T2.keep (y2.mono fun b q => by omega) (fun b _ _ => k2 b)
  have b1 : TB 78 h1 := T1.keep (y1.mono fun b q => by omega) (fun b _ _ => k1 b)
  have x4 : Sm (fun b => 78 ≤ b ∧ b < 105) h3 g0 := (S4.mono fun b q => by omega).trans (y4.mono fun b q => by omega)
  have x3 : Sm (fun b => 78 ≤ b ∧ b < 96) h2 h3 := (S3.mono fun b q => by omega).trans (y3.mono fun b q => by omega)
  have x2 : Sm (fun b => 78 ≤ b ∧ b < 87) h1 h2 := (S2.mono fun b q => by omega).trans (y2.mono fun b q => by omega)
  have c4 : ∀ b, b < 105 → kd g0 b = kd h3 b ∧ ln g0 b = ln h3 b := fun b hb => by rw [(k4 b).1, (k4 b).2]; exact K4.1 b (by omega)
  have c3 : ∀ b, b < 96 → kd h3 b = kd h2 b ∧ ln h3 b = ln h2 b := fun b hb => by rw [(k3 b).1, (k3 b).2]; exact K3.1 b (by omega)
  have c2 : ∀ b, b < 87 → kd h2 b = kd h1 b ∧ ln h2 b = ln h1 b := fun b hb => by rw [(k2 b).1, (k2 b).2]; exact K2.1 b (by omega)
  have c1 : ∀ b, b < 78 → kd h1 b = kd h b ∧ ln h1 b = ln h b := fun b hb => by rw [(k1 b).1, (k1 b).2]; exact K1.1 b (by omega)
  have a3 : TB 96 g0 := b3.keep (x4.mono fun b q => by omega) (fun b p r => c4 b (by omega))
  have a2 : TB 87 g0 := (b2.keep (x3.mono fun b q => by omega) (fun b p r => c3 b (by omega))).keep (x4.mono fun b q => by omega) (fun b p r => c4 b (by omega))
  have a1 : TB 78 g0 := ((b1.keep (x2.mono fun b q => by omega) (fun b p r => c2 b (by omega))).keep (x3.mono fun b q => by omega) (fun b p r => c3 b (by omega))).keep (x4.mono fun b q => by omega) (fun b p r => c4 b (by omega))
  have f77 : kd g0 77 = kc_Routes := by rw [(c4 77 (by omega)).1, (c3 77 (by omega)).1, (c2 77 (by omega)).1, (c1 77 (by omega)).1]; exact hk
  have n0 : nx g0 = 114 := by rw [← hg0]; exact n4
  obtain ⟨⟨g, v3⟩, e1, F, z⟩ := loopR (fun Q k (x : Hp × Option MV) => WP Gm j_Routes_init 64 [some (.inr (.inl (some 77))), some (.inr (.inl (some 2))), some (.inl (ii k)), x.2] [] x.1 Q)
    (fun k x => Fr wRo nW nW g0 x.1 ∧ ∀ i j, i < k → j < 8 → gI x.1 (79 + i) j = -1 ∧ gI x.1 (97 + i) j = -1) 8
    (fun k x hk8 hI => by
      obtain ⟨g, v3⟩ := x
      dsimp only at hI ⊢
      obtain ⟨F, z⟩ := hI
      have hle : ((8 : Int32) ≤ ii k) = False := lle_f (n := 8) (by omega) hk8
      obtain ⟨u, e5, Fu, zu⟩ := loopR (fun Q j (u : Hp) => WP Gm j_Routes_init 72 [some (.inr (.inl (some 77))), some (.inr (.inl (some 2))), some (.inl (ii k)), some (.inl (ii j))] [] u Q)
        (fun j u => Fr wRo nW nW g0 u ∧ ∀ i j', (i < k ∨ (i = k ∧ j' < j)) → j' < 8 → gI u (79 + i) j' = -1 ∧ gI u (97 + i) j' = -1) 8
        (fun j u hj8 hI => by
          obtain ⟨Fu, zu⟩ := hI
          have hle2 : ((8 : Int32) ≤ ii j) = False := lle_f (n := 8) (by omega) hj8
          have nu : nx u = 114 := by rw [Fu.2.2.2.2.2.1]; exact n0
          have kdu := Fu.2.2.2.1
          have lnu := Fu.2.2.2.2.1
          have gRu : ∀ b k, gR u b k = gR g0 b k := fun b k => Fu.2.1 b k (fun w => w)
          have f1 : isK u 77 kc_Routes = true := isK_of (by omega) (by rw [kdu]; exact f77)
          have tk : ∀ t, TB t g0 → t < 114 → isK u t 104 = true ∧ inL u t (ii k) = true := fun t ht h9 => ⟨isK_of (by omega) (by rw [kdu]; exact ht.1), inL_n (by omega) (by rw [lnu, ht.2.1]; exact hk8)⟩
          have tr : ∀ t, TB t g0 → t < 106 → gR u t k = some (t + 1 + k) ∧ isK u (t + 1 + k) 100 = true ∧ inL u (t + 1 + k) (ii j) = true := fun t ht h9 => ⟨by rw [gRu]; exact (ht.2.2 k hk8).1, isK_of (by omega) (by rw [kdu]; exact (ht.2.2 k hk8).2.1), inL_n (by omega) (by rw [lnu, (ht.2.2 k hk8).2.2]; exact hj8)⟩
          obtain ⟨A1, A2⟩ := tk 78 a1 (by omega)
          obtain ⟨B1, B2⟩ := tk 87 a2 (by omega)
          obtain ⟨C1, C2⟩ := tk 96 a3 (by omega)
          obtain ⟨D1, D2⟩ := tk 105 a4 (by omega)
          obtain ⟨A3, A4, A5⟩ := tr 78 a1 (by omega)
          obtain ⟨B3, B4, B5⟩ := tr 87 a2 (by omega)
          obtain ⟨C3, C4, C5⟩ := tr 96 a3 (by omega)
          obtain ⟨D3, D4, D5⟩ := tr 105 a4 (by omega)
          refine ⟨sI (sI (sI (sI u (78 + 1 + k) j (-1)) (87 + 1 + k) j (-1)) (96 + 1 + k) j (-1)) (105 + 1 + k) j (-1), fun Q => ?_, ?_, fun i j' hij hj' => ⟨?_, ?_⟩⟩
          · rw [e_Routes_init_72]
            simp only [Nat.reduceAdd] at A3 A4 A5 B3 B4 B5 C3 C4 C5 D3 D4 D5
            simp only [↓e_Routes_init_0, ↓e_Routes_init_1, ↓e_Routes_init_4, ↓e_Routes_init_5, ↓e_Routes_init_7, ↓e_Routes_init_9, ↓e_Routes_init_13, ↓e_Routes_init_16, ↓e_Routes_init_17, ↓e_Routes_init_19, ↓e_Routes_init_21, ↓e_Routes_init_25, ↓e_Routes_init_28, ↓e_Routes_init_29, ↓e_Routes_init_31, ↓e_Routes_init_33, ↓e_Routes_init_37, ↓e_Routes_init_40, ↓e_Routes_init_41, ↓e_Routes_init_43, ↓e_Routes_init_45, ↓e_Routes_init_49, ↓e_Routes_init_52, ↓e_Routes_init_53, ↓e_Routes_init_54, ↓e_Routes_init_57, ↓e_Routes_init_58, ↓e_Routes_init_59, ↓e_Routes_init_62, ↓e_Routes_init_63, ↓e_Routes_init_64, ↓e_Routes_init_65, ↓e_Routes_init_67, ↓e_Routes_init_70, ↓e_Routes_init_71, ↓e_Routes_init_73, ↓e_Routes_init_75, ↓e_Routes_init_78, ↓e_Routes_init_79, ↓e_Routes_init_82, ↓e_Routes_init_83, ↓e_Routes_init_84, ↓e_Routes_init_85, ↓e_Routes_init_86, ↓e_Routes_init_87, ↓e_Routes_init_88, ↓e_Routes_init_91, ↓e_Routes_init_92, ↓e_Routes_init_93, ↓e_Routes_init_94, ↓e_Routes_init_95, ↓e_Routes_init_96, ↓e_Routes_init_97, ↓e_Routes_init_100, ↓e_Routes_init_101, ↓e_Routes_init_102, ↓e_Routes_init_103, ↓e_Routes_init_104, ↓e_Routes_init_105, ↓e_Routes_init_106, ↓e_Routes_init_109, ↓e_Routes_init_110, ↓e_Routes_init_111, ↓e_Routes_init_112, ↓e_Routes_init_113, ↓e_Routes_init_114, ↓e_Routes_init_117, ↓e_Routes_init_120, ↓e_Routes_init_123, ↓e_Routes_init_126, not_true_eq_false, not_false_eq_true, one0, true_or, or_true, eq_self, bI_z, bI_nz, bI_o, b_ft, bI_1, bI_0, ↓kC_l, ↓kC_r, Option.toList_some, Option.toList_none, List.cons_append, List.nil_append, s1_0, s1_1i, s1_1r, s1_1w, s1_1n, s1_s, s2_0, s2_1i, s2_1r, s2_1w, s2_1n, s2_s, gI_sI, gI_sR, gI_sL, gI_sD, gR_sI, gR_sR, gR_sL, gR_sD, gL_sI, gL_sR, gL_sL, gL_sD, gD_sI, gD_sR, gD_sL, gD_sD, isK_sI, isK_sR, isK_sL, isK_sD, inL_sI, inL_sR, inL_sL, inL_sD, nx_sI, nx_sR, nx_sL, nx_sD, kd_sI, kd_sR, kd_sL, kd_sD, ln_sI, ln_sR, ln_sL, ln_sD, ↓reduceIte, c8_n, c8_1, c8_2, c8_3, c8_4, Nat.reduceAdd, hle2, f1, gRu 77, p1, p2, p3, p4, A1, A2, A3, A4, A5, B1, B2, B3, B4, B5, C1, C2, C3, C4, C5, D1, D2, D3, D4, D5, ii_nat (show k < 2147483648 by omega), ii_nat (show j < 2147483648 by omega), ii_succ, (show ¬ 79 + k = 0 by omega), (show ¬ 88 + k = 0 by omega), (show ¬ 97 + k = 0 by omega), (show ¬ 106 + k = 0 by omega)]
          · exact (((Fu.sI _ (by unfold wRo; omega)).sI _ (by unfold wRo; omega)).sI _ (by unfold wRo; omega)).sI _ (by unfold wRo; omega)
          · rw [gI_sI, if_neg (by omega), gI_sI, if_neg (by omega), gI_sI, if_neg (by omega), gI_sI]
            by_cases e : i = k ∧ j' = j
            · rw [if_pos (by omega)]
            · rw [if_neg (by omega)]
              exact (zu i j' (by omega) hj').1
          · rw [gI_sI, if_neg (by omega), gI_sI]
            by_cases e : i = k ∧ j' = j
            · rw [if_pos (by omega)]
            · rw [if_neg (by omega), gI_sI, if_neg (by omega), gI_sI, if_neg (by omega)]
              exact (zu i j' (by omega) hj').2) 8 0 g (by omega) ⟨F, fun i j' hij hj' => z i j' (by omega) hj'⟩
      refine ⟨(u, some (.inl (ii 8))), fun Q => ?_, Fu, fun i j hi hj => zu i j (by omega) hj⟩
      have pre : WP Gm j_Routes_init 64 [some (.inr (.inl (some 77))), some (.inr (.inl (some 2))), some (.inl (ii k)), v3] [] g Q = WP Gm j_Routes_init 72 [some (.inr (.inl (some 77))), some (.inr (.inl (some 2))), some (.inl (ii k)), some (.inl (ii 0))] [] g Q := by
        rw [e_Routes_init_64]
        simp only [↓e_Routes_init_0, ↓e_Routes_init_1, ↓e_Routes_init_4, ↓e_Routes_init_5, ↓e_Routes_init_7, ↓e_Routes_init_9, ↓e_Routes_init_13, ↓e_Routes_init_16, ↓e_Routes_init_17, ↓e_Routes_init_19, ↓e_Routes_init_21, ↓e_Routes_init_25, ↓e_Routes_init_28, ↓e_Routes_init_29, ↓e_Routes_init_31, ↓e_Routes_init_33, ↓e_Routes_init_37, ↓e_Routes_init_40, ↓e_Routes_init_41, ↓e_Routes_init_43, ↓e_Routes_init_45, ↓e_Routes_init_49, ↓e_Routes_init_52, ↓e_Routes_init_53, ↓e_Routes_init_54, ↓e_Routes_init_57, ↓e_Routes_init_58, ↓e_Routes_init_59, ↓e_Routes_init_62, ↓e_Routes_init_63, ↓e_Routes_init_65, ↓e_Routes_init_67, ↓e_Routes_init_70, ↓e_Routes_init_71, ↓e_Routes_init_73, ↓e_Routes_init_75, ↓e_Routes_init_78, ↓e_Routes_init_79, ↓e_Routes_init_82, ↓e_Routes_init_83, ↓e_Routes_init_84, ↓e_Routes_init_85, ↓e_Routes_init_86, ↓e_Routes_init_87, ↓e_Routes_init_88, ↓e_Routes_init_91, ↓e_Routes_init_92, ↓e_Routes_init_93, ↓e_Routes_init_94, ↓e_Routes_init_95, ↓e_Routes_init_96, ↓e_Routes_init_97, ↓e_Routes_init_100, ↓e_Routes_init_101, ↓e_Routes_init_102, ↓e_Routes_init_103, ↓e_Routes_init_104, ↓e_Routes_init_105, ↓e_Routes_init_106, ↓e_Routes_init_109, ↓e_Routes_init_110, ↓e_Routes_init_111, ↓e_Routes_init_112, ↓e_Routes_init_113, ↓e_Routes_init_114, ↓e_Routes_init_117, ↓e_Routes_init_120, ↓e_Routes_init_123, ↓e_Routes_init_126, not_true_eq_false, not_false_eq_true, one0, true_or, or_true, eq_self, bI_z, bI_nz, bI_o, b_ft, bI_1, bI_0, ↓kC_l, ↓kC_r, Option.toList_some, Option.toList_none, List.cons_append, List.nil_append, s1_0, s1_1i, s1_1r, s1_1w, s1_1n, s1_s, s2_0, s2_1i, s2_1r, s2_1w, s2_1n, s2_s, gI_sI, gI_sR, gI_sL, gI_sD, gR_sI, gR_sR, gR_sL, gR_sD, gL_sI, gL_sR, gL_sL, gL_sD, gD_sI, gD_sR, gD_sL, gD_sD, isK_sI, isK_sR, isK_sL, isK_sD, inL_sI, inL_sR, inL_sL, inL_sD, nx_sI, nx_sR, nx_sL, nx_sD, kd_sI, kd_sR, kd_sL, kd_sD, ln_sI, ln_sR, ln_sL, ln_sD, ↓reduceIte, c8_n, c8_1, c8_2, c8_3, c8_4, Nat.reduceAdd, hle]
        rfl
      rw [pre]
      refine (e5 Q).trans ?_
      rw [e_Routes_init_72]
      simp only [↓e_Routes_init_0, ↓e_Routes_init_1, ↓e_Routes_init_4, ↓e_Routes_init_5, ↓e_Routes_init_7, ↓e_Routes_init_9, ↓e_Routes_init_13, ↓e_Routes_init_16, ↓e_Routes_init_17, ↓e_Routes_init_19, ↓e_Routes_init_21, ↓e_Routes_init_25, ↓e_Routes_init_28, ↓e_Routes_init_29, ↓e_Routes_init_31, ↓e_Routes_init_33, ↓e_Routes_init_37, ↓e_Routes_init_40, ↓e_Routes_init_41, ↓e_Routes_init_43, ↓e_Routes_init_45, ↓e_Routes_init_49, ↓e_Routes_init_52, ↓e_Routes_init_53, ↓e_Routes_init_54, ↓e_Routes_init_57, ↓e_Routes_init_58, ↓e_Routes_init_59, ↓e_Routes_init_62, ↓e_Routes_init_63, ↓e_Routes_init_65, ↓e_Routes_init_67, ↓e_Routes_init_70, ↓e_Routes_init_71, ↓e_Routes_init_73, ↓e_Routes_init_75, ↓e_Routes_init_78, ↓e_Routes_init_79, ↓e_Routes_init_82, ↓e_Routes_init_83, ↓e_Routes_init_84, ↓e_Routes_init_85, ↓e_Routes_init_86, ↓e_Routes_init_87, ↓e_Routes_init_88, ↓e_Routes_init_91, ↓e_Routes_init_92, ↓e_Routes_init_93, ↓e_Routes_init_94, ↓e_Routes_init_95, ↓e_Routes_init_96, ↓e_Routes_init_97, ↓e_Routes_init_100, ↓e_Routes_init_101, ↓e_Routes_init_102, ↓e_Routes_init_103, ↓e_Routes_init_104, ↓e_Routes_init_105, ↓e_Routes_init_106, ↓e_Routes_init_109, ↓e_Routes_init_110, ↓e_Routes_init_111, ↓e_Routes_init_112, ↓e_Routes_init_113, ↓e_Routes_init_114, ↓e_Routes_init_117, ↓e_Routes_init_120, ↓e_Routes_init_123, ↓e_Routes_init_126, not_true_eq_false, not_false_eq_true, one0, true_or, or_true, eq_self, bI_z, bI_nz, bI_o, b_ft, bI_1, bI_0, ↓kC_l, ↓kC_r, Option.toList_some, Option.toList_none, List.cons_append, List.nil_append, s1_0, s1_1i, s1_1r, s1_1w, s1_1n, s1_s, s2_0, s2_1i, s2_1r, s2_1w, s2_1n, s2_s, gI_sI, gI_sR, gI_sL, gI_sD, gR_sI, gR_sR, gR_sL, gR_sD, gL_sI, gL_sR, gL_sL, gL_sD, gD_sI, gD_sR, gD_sL, gD_sD, isK_sI, isK_sR, isK_sL, isK_sD, inL_sI, inL_sR, inL_sL, inL_sD, nx_sI, nx_sR, nx_sL, nx_sD, kd_sI, kd_sR, kd_sL, kd_sD, ln_sI, ln_sR, ln_sL, ln_sD, ↓reduceIte, c8_n, c8_1, c8_2, c8_3, c8_4, Nat.reduceAdd, (show ((8 : Int32) ≤ ii 8) = True from eq_true (by decide)), ii_succ]) 8 0 (g0, none) (by omega) ⟨Fr.refl g0, fun i j hi _ => absurd hi (by omega)⟩
  dsimp only at e1 F z
  refine ⟨g, fun Q => ?_, w4.fr F (fun b k q w => by unfold wRo at w; omega) (fun _ _ _ w => w) (fun _ _ _ w => w), z4.fr F, by rw [F.2.2.2.2.2.1]; exact n0, z, by rw [F.1 77 5 (by unfold wRo; omega), ← hg0, gI_sR, gI_sI, if_pos ⟨rfl, rfl⟩]⟩
  · have hsc := z1.2.2
    have hsc2 := z2.2.2
    have hsc3 := z3.2.2
    have t8 : Int32.toNatClampNeg 8 = 8 := by decide
    have hi : (0 : Int32) ≤ 8 ∧ (8 : Int32).toNatClampNeg ≤ 1000 := by decide
    have hr0 : okR cM sM h (1 + Int32.toNatClampNeg 8) (Int32.toNatClampNeg 8 + Int32.toNatClampNeg 8 * Int32.toNatClampNeg 8) = true := ok_small (by omega) (by omega) (by decide) (by decide)
    have hr1 : okR cM sM h1 (1 + Int32.toNatClampNeg 8) (Int32.toNatClampNeg 8 + Int32.toNatClampNeg 8 * Int32.toNatClampNeg 8) = true := ok_small (by omega) (by omega) (by decide) (by decide)
    have hr2 : okR cM sM h2 (1 + Int32.toNatClampNeg 8) (Int32.toNatClampNeg 8 + Int32.toNatClampNeg 8 * Int32.toNatClampNeg 8) = true := ok_small (by omega) (by omega) (by decide) (by decide)
    have hr3 : okR cM sM h3 (1 + Int32.toNatClampNeg 8) (Int32.toNatClampNeg 8 + Int32.toNatClampNeg 8 * Int32.toNatClampNeg 8) = true := ok_small (by omega) (by omega) (by decide) (by decide)
    have f1 : isK m1 77 kc_Routes = true := isK_of (by omega) (by rw [(K1.1 77 (by omega)).1]; exact hk)
    have f2 : isK m2 77 kc_Routes = true := isK_of (by omega) (by rw [(K2.1 77 (by omega)).1, (c1 77 (by omega)).1]; exact hk)
    have f3 : isK m3 77 kc_Routes = true := isK_of (by omega) (by rw [(K3.1 77 (by omega)).1, (c2 77 (by omega)).1, (c1 77 (by omega)).1]; exact hk)
    have f4 : isK m4 77 kc_Routes = true := isK_of (by omega) (by rw [(K4.1 77 (by omega)).1, (c3 77 (by omega)).1, (c2 77 (by omega)).1, (c1 77 (by omega)).1]; exact hk)
    have pre : WP Gm j_Routes_init 0 [some (.inr (.inl (some 77))), some (.inr (.inl (some 2))), none, none] [] h Q = WP Gm j_Routes_init 64 [some (.inr (.inl (some 77))), some (.inr (.inl (some 2))), some (.inl (ii 0)), none] [] g0 Q := by
      simp only [↓e_Routes_init_0, ↓e_Routes_init_1, ↓e_Routes_init_4, ↓e_Routes_init_5, ↓e_Routes_init_7, ↓e_Routes_init_13, ↓e_Routes_init_16, ↓e_Routes_init_17, ↓e_Routes_init_19, ↓e_Routes_init_25, ↓e_Routes_init_28, ↓e_Routes_init_29, ↓e_Routes_init_31, ↓e_Routes_init_37, ↓e_Routes_init_40, ↓e_Routes_init_41, ↓e_Routes_init_43, ↓e_Routes_init_49, ↓e_Routes_init_52, ↓e_Routes_init_53, ↓e_Routes_init_54, ↓e_Routes_init_57, ↓e_Routes_init_58, ↓e_Routes_init_59, ↓e_Routes_init_62, ↓e_Routes_init_63, ↓e_Routes_init_65, ↓e_Routes_init_67, ↓e_Routes_init_70, ↓e_Routes_init_71, ↓e_Routes_init_72, ↓e_Routes_init_73, ↓e_Routes_init_75, ↓e_Routes_init_78, ↓e_Routes_init_79, ↓e_Routes_init_82, ↓e_Routes_init_83, ↓e_Routes_init_84, ↓e_Routes_init_85, ↓e_Routes_init_86, ↓e_Routes_init_87, ↓e_Routes_init_88, ↓e_Routes_init_91, ↓e_Routes_init_92, ↓e_Routes_init_93, ↓e_Routes_init_94, ↓e_Routes_init_95, ↓e_Routes_init_96, ↓e_Routes_init_97, ↓e_Routes_init_100, ↓e_Routes_init_101, ↓e_Routes_init_102, ↓e_Routes_init_103, ↓e_Routes_init_104, ↓e_Routes_init_105, ↓e_Routes_init_106, ↓e_Routes_init_109, ↓e_Routes_init_110, ↓e_Routes_init_111, ↓e_Routes_init_112, ↓e_Routes_init_113, ↓e_Routes_init_114, ↓e_Routes_init_117, ↓e_Routes_init_120, ↓e_Routes_init_123, ↓e_Routes_init_126, not_true_eq_false, not_false_eq_true, one0, true_or, or_true, eq_self, bI_z, bI_nz, bI_o, b_ft, bI_1, bI_0, ↓kC_l, ↓kC_r, Option.toList_some, Option.toList_none, List.cons_append, List.nil_append, s1_0, s1_1i, s1_1r, s1_1w, s1_1n, s1_s, s2_0, s2_1i, s2_1r, s2_1w, s2_1n, s2_s, gI_sI, gI_sR, gI_sL, gI_sD, gR_sI, gR_sR, gR_sL, gR_sD, gL_sI, gL_sR, gL_sL, gL_sD, gD_sI, gD_sR, gD_sL, gD_sD, isK_sI, isK_sR, isK_sL, isK_sD, inL_sI, inL_sR, inL_sL, inL_sD, nx_sI, nx_sR, nx_sL, nx_sD, kd_sI, kd_sR, kd_sL, kd_sD, ln_sI, ln_sR, ln_sL, ln_sD, ↓reduceIte, c8_n, c8_1, c8_2, c8_3, c8_4, Nat.reduceAdd]
      rw [e_Routes_init_9 (i := 8) (k := 8) (hi := hi) (hj := hi) (hr := hr0)]
      simp only [↓e_Routes_init_0, ↓e_Routes_init_1, ↓e_Routes_init_4, ↓e_Routes_init_5, ↓e_Routes_init_7, ↓e_Routes_init_13, ↓e_Routes_init_16, ↓e_Routes_init_17, ↓e_Routes_init_19, ↓e_Routes_init_25, ↓e_Routes_init_28, ↓e_Routes_init_29, ↓e_Routes_init_31, ↓e_Routes_init_37, ↓e_Routes_init_40, ↓e_Routes_init_41, ↓e_Routes_init_43, ↓e_Routes_init_49, ↓e_Routes_init_52, ↓e_Routes_init_53, ↓e_Routes_init_54, ↓e_Routes_init_57, ↓e_Routes_init_58, ↓e_Routes_init_59, ↓e_Routes_init_62, ↓e_Routes_init_63, ↓e_Routes_init_65, ↓e_Routes_init_67, ↓e_Routes_init_70, ↓e_Routes_init_71, ↓e_Routes_init_72, ↓e_Routes_init_73, ↓e_Routes_init_75, ↓e_Routes_init_78, ↓e_Routes_init_79, ↓e_Routes_init_82, ↓e_Routes_init_83, ↓e_Routes_init_84, ↓e_Routes_init_85, ↓e_Routes_init_86, ↓e_Routes_init_87, ↓e_Routes_init_88, ↓e_Routes_init_91, ↓e_Routes_init_92, ↓e_Routes_init_93, ↓e_Routes_init_94, ↓e_Routes_init_95, ↓e_Routes_init_96, ↓e_Routes_init_97, ↓e_Routes_init_100, ↓e_Routes_init_101, ↓e_Routes_init_102, ↓e_Routes_init_103, ↓e_Routes_init_104, ↓e_Routes_init_105, ↓e_Routes_init_106, ↓e_Routes_init_109, ↓e_Routes_init_110, ↓e_Routes_init_111, ↓e_Routes_init_112, ↓e_Routes_init_113, ↓e_Routes_init_114, ↓e_Routes_init_117, ↓e_Routes_init_120, ↓e_Routes_init_123, ↓e_Routes_init_126, not_true_eq_false, not_false_eq_true, one0, true_or, or_true, eq_self, bI_z, bI_nz, bI_o, b_ft, bI_1, bI_0, ↓kC_l, ↓kC_r, Option.toList_some, Option.toList_none, List.cons_append, List.nil_append, s1_0, s1_1i, s1_1r, s1_1w, s1_1n, s1_s, s2_0, s2_1i, s2_1r, s2_1w, s2_1n, s2_s, gI_sI, gI_sR, gI_sL, gI_sD, gR_sI, gR_sR, gR_sL, gR_sD, gL_sI, gL_sR, gL_sL, gL_sD, gD_sI, gD_sR, gD_sL, gD_sD, isK_sI, isK_sR, isK_sL, isK_sD, inL_sI, inL_sR, inL_sL, inL_sD, nx_sI, nx_sR, nx_sL, nx_sD, kd_sI, kd_sR, kd_sL, kd_sD, ln_sI, ln_sR, ln_sL, ln_sD, ↓reduceIte, c8_n, c8_1, c8_2, c8_3, c8_4, Nat.reduceAdd, t8, hn, hm1, f1, hh1]
      rw [e_Routes_init_21 (i := 8) (k := 8) (hi := hi) (hj := hi) (hr := hr1)]
      simp only [↓e_Routes_init_0, ↓e_Routes_init_1, ↓e_Routes_init_4, ↓e_Routes_init_5, ↓e_Routes_init_7, ↓e_Routes_init_13, ↓e_Routes_init_16, ↓e_Routes_init_17, ↓e_Routes_init_19, ↓e_Routes_init_25, ↓e_Routes_init_28, ↓e_Routes_init_29, ↓e_Routes_init_31, ↓e_Routes_init_37, ↓e_Routes_init_40, ↓e_Routes_init_41, ↓e_Routes_init_43, ↓e_Routes_init_49, ↓e_Routes_init_52, ↓e_Routes_init_53, ↓e_Routes_init_54, ↓e_Routes_init_57, ↓e_Routes_init_58, ↓e_Routes_init_59, ↓e_Routes_init_62, ↓e_Routes_init_63, ↓e_Routes_init_65, ↓e_Routes_init_67, ↓e_Routes_init_70, ↓e_Routes_init_71, ↓e_Routes_init_72, ↓e_Routes_init_73, ↓e_Routes_init_75, ↓e_Routes_init_78, ↓e_Routes_init_79, ↓e_Routes_init_82, ↓e_Routes_init_83, ↓e_Routes_init_84, ↓e_Routes_init_85, ↓e_Routes_init_86, ↓e_Routes_init_87, ↓e_Routes_init_88, ↓e_Routes_init_91, ↓e_Routes_init_92, ↓e_Routes_init_93, ↓e_Routes_init_94, ↓e_Routes_init_95, ↓e_Routes_init_96, ↓e_Routes_init_97, ↓e_Routes_init_100, ↓e_Routes_init_101, ↓e_Routes_init_102, ↓e_Routes_init_103, ↓e_Routes_init_104, ↓e_Routes_init_105, ↓e_Routes_init_106, ↓e_Routes_init_109, ↓e_Routes_init_110, ↓e_Routes_init_111, ↓e_Routes_init_112, ↓e_Routes_init_113, ↓e_Routes_init_114, ↓e_Routes_init_117, ↓e_Routes_init_120, ↓e_Routes_init_123, ↓e_Routes_init_126, not_true_eq_false, not_false_eq_true, one0, true_or, or_true, eq_self, bI_z, bI_nz, bI_o, b_ft, bI_1, bI_0, ↓kC_l, ↓kC_r, Option.toList_some, Option.toList_none, List.cons_append, List.nil_append, s1_0, s1_1i, s1_1r, s1_1w, s1_1n, s1_s, s2_0, s2_1i, s2_1r, s2_1w, s2_1n, s2_s, gI_sI, gI_sR, gI_sL, gI_sD, gR_sI, gR_sR, gR_sL, gR_sD, gL_sI, gL_sR, gL_sL, gL_sD, gD_sI, gD_sR, gD_sL, gD_sD, isK_sI, isK_sR, isK_sL, isK_sD, inL_sI, inL_sR, inL_sL, inL_sD, nx_sI, nx_sR, nx_sL, nx_sD, kd_sI, kd_sR, kd_sL, kd_sD, ln_sI, ln_sR, ln_sL, ln_sD, ↓reduceIte, c8_n, c8_1, c8_2, c8_3, c8_4, Nat.reduceAdd, t8, nh1, hm2, f2, hh2]
      rw [e_Routes_init_33 (i := 8) (k := 8) (hi := hi) (hj := hi) (hr := hr2)]
      simp only [↓e_Routes_init_0, ↓e_Routes_init_1, ↓e_Routes_init_4, ↓e_Routes_init_5, ↓e_Routes_init_7, ↓e_Routes_init_13, ↓e_Routes_init_16, ↓e_Routes_init_17, ↓e_Routes_init_19, ↓e_Routes_init_25, ↓e_Routes_init_28, ↓e_Routes_init_29, ↓e_Routes_init_31, ↓e_Routes_init_37, ↓e_Routes_init_40, ↓e_Routes_init_41, ↓e_Routes_init_43, ↓e_Routes_init_49, ↓e_Routes_init_52, ↓e_Routes_init_53, ↓e_Routes_init_54, ↓e_Routes_init_57, ↓e_Routes_init_58, ↓e_Routes_init_59, ↓e_Routes_init_62, ↓e_Routes_init_63, ↓e_Routes_init_65, ↓e_Routes_init_67, ↓e_Routes_init_70, ↓e_Routes_init_71, ↓e_Routes_init_72, ↓e_Routes_init_73, ↓e_Routes_init_75, ↓e_Routes_init_78, ↓e_Routes_init_79, ↓e_Routes_init_82, ↓e_Routes_init_83, ↓e_Routes_init_84, ↓e_Routes_init_85, ↓e_Routes_init_86, ↓e_Routes_init_87, ↓e_Routes_init_88, ↓e_Routes_init_91, ↓e_Routes_init_92, ↓e_Routes_init_93, ↓e_Routes_init_94, ↓e_Routes_init_95, ↓e_Routes_init_96, ↓e_Routes_init_97, ↓e_Routes_init_100, ↓e_Routes_init_101, ↓e_Routes_init_102, ↓e_Routes_init_103, ↓e_Routes_init_104, ↓e_Routes_init_105, ↓e_Routes_init_106, ↓e_Routes_init_109, ↓e_Routes_init_110, ↓e_Routes_init_111, ↓e_Routes_init_112, ↓e_Routes_init_113, ↓e_Routes_init_114, ↓e_Routes_init_117, ↓e_Routes_init_120, ↓e_Routes_init_123, ↓e_Routes_init_126, not_true_eq_false, not_false_eq_true, one0, true_or, or_true, eq_self, bI_z, bI_nz, bI_o, b_ft, bI_1, bI_0, ↓kC_l, ↓kC_r, Option.toList_some, Option.toList_none, List.cons_append, List.nil_append, s1_0, s1_1i, s1_1r, s1_1w, s1_1n, s1_s, s2_0, s2_1i, s2_1r, s2_1w, s2_1n, s2_s, gI_sI, gI_sR, gI_sL, gI_sD, gR_sI, gR_sR, gR_sL, gR_sD, gL_sI, gL_sR, gL_sL, gL_sD, gD_sI, gD_sR, gD_sL, gD_sD, isK_sI, isK_sR, isK_sL, isK_sD, inL_sI, inL_sR, inL_sL, inL_sD, nx_sI, nx_sR, nx_sL, nx_sD, kd_sI, kd_sR, kd_sL, kd_sD, ln_sI, ln_sR, ln_sL, ln_sD, ↓reduceIte, c8_n, c8_1, c8_2, c8_3, c8_4, Nat.reduceAdd, t8, nh2, hm3, f3, hh3]
      rw [e_Routes_init_45 (i := 8) (k := 8) (hi := hi) (hj := hi) (hr := hr3)]
      simp only [↓e_Routes_init_0, ↓e_Routes_init_1, ↓e_Routes_init_4, ↓e_Routes_init_5, ↓e_Routes_init_7, ↓e_Routes_init_13, ↓e_Routes_init_16, ↓e_Routes_init_17, ↓e_Routes_init_19, ↓e_Routes_init_25, ↓e_Routes_init_28, ↓e_Routes_init_29, ↓e_Routes_init_31, ↓e_Routes_init_37, ↓e_Routes_init_40, ↓e_Routes_init_41, ↓e_Routes_init_43, ↓e_Routes_init_49, ↓e_Routes_init_52, ↓e_Routes_init_53, ↓e_Routes_init_54, ↓e_Routes_init_57, ↓e_Routes_init_58, ↓e_Routes_init_59, ↓e_Routes_init_62, ↓e_Routes_init_63, ↓e_Routes_init_65, ↓e_Routes_init_67, ↓e_Routes_init_70, ↓e_Routes_init_71, ↓e_Routes_init_72, ↓e_Routes_init_73, ↓e_Routes_init_75, ↓e_Routes_init_78, ↓e_Routes_init_79, ↓e_Routes_init_82, ↓e_Routes_init_83, ↓e_Routes_init_84, ↓e_Routes_init_85, ↓e_Routes_init_86, ↓e_Routes_init_87, ↓e_Routes_init_88, ↓e_Routes_init_91, ↓e_Routes_init_92, ↓e_Routes_init_93, ↓e_Routes_init_94, ↓e_Routes_init_95, ↓e_Routes_init_96, ↓e_Routes_init_97, ↓e_Routes_init_100, ↓e_Routes_init_101, ↓e_Routes_init_102, ↓e_Routes_init_103, ↓e_Routes_init_104, ↓e_Routes_init_105, ↓e_Routes_init_106, ↓e_Routes_init_109, ↓e_Routes_init_110, ↓e_Routes_init_111, ↓e_Routes_init_112, ↓e_Routes_init_113, ↓e_Routes_init_114, ↓e_Routes_init_117, ↓e_Routes_init_120, ↓e_Routes_init_123, ↓e_Routes_init_126, not_true_eq_false, not_false_eq_true, one0, true_or, or_true, eq_self, bI_z, bI_nz, bI_o, b_ft, bI_1, bI_0, ↓kC_l, ↓kC_r, Option.toList_some, Option.toList_none, List.cons_append, List.nil_append, s1_0, s1_1i, s1_1r, s1_1w, s1_1n, s1_s, s2_0, s2_1i, s2_1r, s2_1w, s2_1n, s2_s, gI_sI, gI_sR, gI_sL, gI_sD, gR_sI, gR_sR, gR_sL, gR_sD, gL_sI, gL_sR, gL_sL, gL_sD, gD_sI, gD_sR, gD_sL, gD_sD, isK_sI, isK_sR, isK_sL, isK_sD, inL_sI, inL_sR, inL_sL, inL_sD, nx_sI, nx_sR, nx_sL, nx_sD, kd_sI, kd_sR, kd_sL, kd_sD, ln_sI, ln_sR, ln_sL, ln_sD, ↓reduceIte, c8_n, c8_1, c8_2, c8_3, c8_4, Nat.reduceAdd, t8, nh3, hm4, f4, hg0]
      rfl
    rw [pre]
    refine (e1 Q).trans ?_
    rw [e_Routes_init_64]
    simp only [↓e_Routes_init_0, ↓e_Routes_init_1, ↓e_Routes_init_4, ↓e_Routes_init_5, ↓e_Routes_init_7, ↓e_Routes_init_9, ↓e_Routes_init_13, ↓e_Routes_init_16, ↓e_Routes_init_17, ↓e_Routes_init_19, ↓e_Routes_init_21, ↓e_Routes_init_25, ↓e_Routes_init_28, ↓e_Routes_init_29, ↓e_Routes_init_31, ↓e_Routes_init_33, ↓e_Routes_init_37, ↓e_Routes_init_40, ↓e_Routes_init_41, ↓e_Routes_init_43, ↓e_Routes_init_45, ↓e_Routes_init_49, ↓e_Routes_init_52, ↓e_Routes_init_53, ↓e_Routes_init_54, ↓e_Routes_init_57, ↓e_Routes_init_58, ↓e_Routes_init_59, ↓e_Routes_init_62, ↓e_Routes_init_63, ↓e_Routes_init_65, ↓e_Routes_init_67, ↓e_Routes_init_70, ↓e_Routes_init_71, ↓e_Routes_init_73, ↓e_Routes_init_75, ↓e_Routes_init_78, ↓e_Routes_init_79, ↓e_Routes_init_82, ↓e_Routes_init_83, ↓e_Routes_init_84, ↓e_Routes_init_85, ↓e_Routes_init_86, ↓e_Routes_init_87, ↓e_Routes_init_88, ↓e_Routes_init_91, ↓e_Routes_init_92, ↓e_Routes_init_93, ↓e_Routes_init_94, ↓e_Routes_init_95, ↓e_Routes_init_96, ↓e_Routes_init_97, ↓e_Routes_init_100, ↓e_Routes_init_101, ↓e_Routes_init_102, ↓e_Routes_init_103, ↓e_Routes_init_104, ↓e_Routes_init_105, ↓e_Routes_init_106, ↓e_Routes_init_109, ↓e_Routes_init_110, ↓e_Routes_init_111, ↓e_Routes_init_112, ↓e_Routes_init_113, ↓e_Routes_init_114, ↓e_Routes_init_117, ↓e_Routes_init_120, ↓e_Routes_init_123, ↓e_Routes_init_126, not_true_eq_false, not_false_eq_true, one0, true_or, or_true, eq_self, bI_z, bI_nz, bI_o, b_ft, bI_1, bI_0, ↓kC_l, ↓kC_r, Option.toList_some, Option.toList_none, List.cons_append, List.nil_append, s1_0, s1_1i, s1_1r, s1_1w, s1_1n, s1_s, s2_0, s2_1i, s2_1r, s2_1w, s2_1n, s2_s, gI_sI, gI_sR, gI_sL, gI_sD, gR_sI, gR_sR, gR_sL, gR_sD, gL_sI, gL_sR, gL_sL, gL_sD, gD_sI, gD_sR, gD_sL, gD_sD, isK_sI, isK_sR, isK_sL, isK_sD, inL_sI, inL_sR, inL_sL, inL_sD, nx_sI, nx_sR, nx_sL, nx_sD, kd_sI, kd_sR, kd_sL, kd_sD, ln_sI, ln_sR, ln_sL, ln_sD, ↓reduceIte, c8_n, c8_1, c8_2, c8_3, c8_4, Nat.reduceAdd, (show ((8 : Int32) ≤ ii 8) = True from eq_true (by decide))]
theorem q_trafficInit9 (hk : isK h 114 kc_Traffic = true) : ∃ h', (∀ Q, WP Gm j_Traffic_init 0 [some (.inr (.inl (some 114))), some (.inr (.inl (some 2))), some (.inr (.inl (some 77)))] [] h Q = Q (.inl none) h') ∧ gI h' 114 2 = 0 ∧ gI h' 114 3 = 41 ∧ gI h' 114 4 = 0 ∧ gI h' 114 5 = 0 ∧ gI h' 114 6 = 0 := by
  refine ⟨sR (sR (sI (sI (sI (sI (sI h 114 2 0) 114 3 41) 114 4 0) 114 5 0) 114 6 0) 114 0 (some 2)) 114 1 (some 77), fun Q => ?_, ?_, ?_, ?_, ?_, ?_⟩
  · simp only [↓e_Traffic_init_0, ↓e_Traffic_init_1, ↓e_Traffic_init_4, ↓e_Traffic_init_5, ↓e_Traffic_init_6, ↓e_Traffic_init_9, ↓e_Traffic_init_10, ↓e_Traffic_init_12, ↓e_Traffic_init_15, ↓e_Traffic_init_16, ↓e_Traffic_init_17, ↓e_Traffic_init_20, ↓e_Traffic_init_21, ↓e_Traffic_init_22, ↓e_Traffic_init_25, ↓e_Traffic_init_26, ↓e_Traffic_init_27, ↓e_Traffic_init_30, ↓e_Traffic_init_31, ↓e_Traffic_init_32, ↓e_Traffic_init_35, ↓e_Traffic_init_36, ↓e_Traffic_init_37, ↓e_Traffic_init_40, not_true_eq_false, not_false_eq_true, one0, true_or, or_true, eq_self, bI_z, bI_nz, bI_o, b_ft, bI_1, bI_0, ↓kC_l, ↓kC_r, Option.toList_some, Option.toList_none, List.cons_append, List.nil_append, s1_0, s1_1i, s1_1r, s1_1w, s1_1n, s1_s, s2_0, s2_1i, s2_1r, s2_1w, s2_1n, s2_s, gI_sI, gI_sR, gI_sL, gI_sD, gR_sI, gR_sR, gR_sL, gR_sD, gL_sI, gL_sR, gL_sL, gL_sD, gD_sI, gD_sR, gD_sL, gD_sD, isK_sI, isK_sR, isK_sL, isK_sD, inL_sI, inL_sR, inL_sL, inL_sD, nx_sI, nx_sR, nx_sL, nx_sD, kd_sI, kd_sR, kd_sL, kd_sD, ln_sI, ln_sR, ln_sL, ln_sD, ↓reduceIte, c8_n, c8_1, c8_2, c8_3, c8_4, Nat.reduceAdd, hk]
  all_goals simp [gI_sR, gI_sI]
theorem q_marketInit9 (hk : kd h 115 = kc_Market) (hn : nx h = 116) (hs : sc h ≤ 2000) : ∃ h', (∀ Q, WP Gm j_Market_init 0 [some (.inr (.inl (some 115)))] [] h Q = Q (.inl none) h') ∧ Sm (fun b => b < 115) h h' ∧ Km 2073 h h' ∧ nx h' = 121 ∧ gI h' 115 8 = 0 := by
  obtain ⟨A1, S1, K1, n1, i1, r1⟩ := ar_make (k := 0) (len := 10) hn (by omega)
  generalize hh1 : sR (hN h 100 10 10) 115 0 (some 116) = h1 at A1 S1 K1 n1 i1 r1
  obtain ⟨A2, S2, K2, n2, i2, r2⟩ := ar_make (k := 1) (len := 10) n1 (by omega)
  simp only [Nat.reduceAdd] at A2 S2 K2 n2 i2 r2
  generalize hh2 : sR (hN h1 100 10 10) 115 1 (some 117) = h2 at A2 S2 K2 n2 i2 r2
  obtain ⟨A3, S3, K3, n3, i3, r3⟩ := ar_make (k := 2) (len := 1024) n2 (by omega)
  simp only [Nat.reduceAdd] at A3 S3 K3 n3 i3 r3
  generalize hh3 : sR (hN h2 100 1024 1024) 115 2 (some 118) = h3 at A3 S3 K3 n3 i3 r3
  obtain ⟨A4, S4, K4, n4, i4, r4⟩ := ar_make (k := 3) (len := 1024) n3 (by omega)
  simp only [Nat.reduceAdd] at A4 S4 K4 n4 i4 r4
  generalize hh4 : sR (hN h3 100 1024 1024) 115 3 (some 119) = h4 at A4 S4 K4 n4 i4 r4
  obtain ⟨A5, S5, K5, n5, i5, r5⟩ := ar_make (k := 4) (len := 5) n4 (by omega)
  simp only [Nat.reduceAdd] at A5 S5 K5 n5 i5 r5
  generalize hh5 : sR (hN h4 100 5 5) 115 4 (some 120) = h5 at A5 S5 K5 n5 i5 r5
  generalize hg : sI (sI (sI (sI h5 115 5 0) 115 6 0) 115 7 0) 115 8 0 = g
  have c1 := K1.2.2
  have c2 := K2.2.2
  have c3 := K3.2.2
  have c4 := K4.2.2
  have k1 : ∀ b, b < 116 → kd h1 b = kd h b := fun b hb => (K1.1 b (by omega)).1
  have k2 : ∀ b, b < 116 → kd h2 b = kd h b := fun b hb => ((K2.1 b (by omega)).1).trans (k1 b hb)
  have k3 : ∀ b, b < 116 → kd h3 b = kd h b := fun b hb => ((K3.1 b (by omega)).1).trans (k2 b hb)
  have k4 : ∀ b, b < 116 → kd h4 b = kd h b := fun b hb => ((K4.1 b (by omega)).1).trans (k3 b hb)
  have k5 : ∀ b, b < 116 → kd h5 b = kd h b := fun b hb => ((K5.1 b (by omega)).1).trans (k4 b hb)
  have Sg : Sm (fun b => b ≠ 115) h5 g := by rw [← hg]; exact ((((Sm.refl h5).sI _ _ (by simp)).sI _ _ (by simp)).sI _ _ (by simp)).sI _ _ (by simp)
  have kg : ∀ b, kd g b = kd h5 b ∧ ln g b = ln h5 b := fun b => by rw [← hg]; exact ⟨rfl, rfl⟩
  have rg : ∀ j, gR g 115 j = gR h5 115 j := fun j => by rw [← hg]; rfl
  refine ⟨g, fun Q => ?_, ?_, ?_, by rw [← hg]; exact n5, by rw [← hg, gI_sI, if_pos ⟨rfl, rfl⟩]⟩
  · have t10 : Int32.toNatClampNeg 10 = 10 := by decide
    have t1024 : Int32.toNatClampNeg 1024 = 1024 := by decide
    have t5 : Int32.toNatClampNeg 5 = 5 := by decide
    have p10 : (0 : Int32) ≤ 10 ∧ (10 : Int32).toNatClampNeg ≤ 1000000 := by decide
    have p1024 : (0 : Int32) ≤ 1024 ∧ (1024 : Int32).toNatClampNeg ≤ 1000000 := by decide
    have p5 : (0 : Int32) ≤ 5 ∧ (5 : Int32).toNatClampNeg ≤ 1000000 := by decide
    have o0 : okR cM sM h 1 (Int32.toNatClampNeg 10) = true := ok_small (by omega) (by omega) (by omega) (by decide)
    have o1 : okR cM sM h1 1 (Int32.toNatClampNeg 10) = true := ok_small (by omega) (by omega) (by omega) (by decide)
    have o2 : okR cM sM h2 1 (Int32.toNatClampNeg 1024) = true := ok_small (by omega) (by omega) (by omega) (by decide)
    have o3 : okR cM sM h3 1 (Int32.toNatClampNeg 1024) = true := ok_small (by omega) (by omega) (by omega) (by decide)
    have o4 : okR cM sM h4 1 (Int32.toNatClampNeg 5) = true := ok_small (by omega) (by omega) (by omega) (by decide)
    have nw : ∀ (f : Hp) c m, nx f ≥ 116 → kd f 115 = kc_Market → isK (hN f c m m) 115 kc_Market = true := fun f c m q1 q2 => isK_of (by rw [nx_hN]; omega) (by rw [kd_hN, if_neg (by omega)]; exact q2)
    have w0 := nw h 100 10 (by omega) hk
    have w1 := nw h1 100 10 (by omega) (by rw [k1 _ (by omega)]; exact hk)
    have w2 := nw h2 100 1024 (by omega) (by rw [k2 _ (by omega)]; exact hk)
    have w3 := nw h3 100 1024 (by omega) (by rw [k3 _ (by omega)]; exact hk)
    have w4 := nw h4 100 5 (by omega) (by rw [k4 _ (by omega)]; exact hk)
    have w5 : isK h5 115 kc_Market = true := isK_of (by omega) (by rw [k5 _ (by omega)]; exact hk)
    simp only [↓e_Market_init_0, ↓e_Market_init_1, ↓e_Market_init_4, ↓e_Market_init_5, ↓e_Market_init_9, ↓e_Market_init_12, ↓e_Market_init_13, ↓e_Market_init_17, ↓e_Market_init_20, ↓e_Market_init_21, ↓e_Market_init_26, ↓e_Market_init_29, ↓e_Market_init_30, ↓e_Market_init_35, ↓e_Market_init_38, ↓e_Market_init_39, ↓e_Market_init_42, ↓e_Market_init_45, ↓e_Market_init_46, ↓e_Market_init_47, ↓e_Market_init_50, ↓e_Market_init_51, ↓e_Market_init_52, ↓e_Market_init_55, ↓e_Market_init_56, ↓e_Market_init_57, ↓e_Market_init_60, ↓e_Market_init_61, ↓e_Market_init_62, ↓e_Market_init_65, not_true_eq_false, not_false_eq_true, one0, true_or, or_true, eq_self, bI_z, bI_nz, bI_o, b_ft, bI_1, bI_0, ↓kC_l, ↓kC_r, Option.toList_some, Option.toList_none, List.cons_append, List.nil_append, s1_0, s1_1i, s1_1r, s1_1w, s1_1n, s1_s, s2_0, s2_1i, s2_1r, s2_1w, s2_1n, s2_s, gI_sI, gI_sR, gI_sL, gI_sD, gR_sI, gR_sR, gR_sL, gR_sD, gL_sI, gL_sR, gL_sL, gL_sD, gD_sI, gD_sR, gD_sL, gD_sD, isK_sI, isK_sR, isK_sL, isK_sD, inL_sI, inL_sR, inL_sL, inL_sD, nx_sI, nx_sR, nx_sL, nx_sD, kd_sI, kd_sR, kd_sL, kd_sD, ln_sI, ln_sR, ln_sL, ln_sD, ↓reduceIte, c8_n, c8_1, c8_2, c8_3, c8_4, Nat.reduceAdd]
    rw [e_Market_init_7 (i := 10) (hi := p10) (hr := o0)]
    simp only [↓e_Market_init_0, ↓e_Market_init_1, ↓e_Market_init_4, ↓e_Market_init_5, ↓e_Market_init_9, ↓e_Market_init_12, ↓e_Market_init_13, ↓e_Market_init_17, ↓e_Market_init_20, ↓e_Market_init_21, ↓e_Market_init_26, ↓e_Market_init_29, ↓e_Market_init_30, ↓e_Market_init_35, ↓e_Market_init_38, ↓e_Market_init_39, ↓e_Market_init_42, ↓e_Market_init_45, ↓e_Market_init_46, ↓e_Market_init_47, ↓e_Market_init_50, ↓e_Market_init_51, ↓e_Market_init_52, ↓e_Market_init_55, ↓e_Market_init_56, ↓e_Market_init_57, ↓e_Market_init_60, ↓e_Market_init_61, ↓e_Market_init_62, ↓e_Market_init_65, not_true_eq_false, not_false_eq_true, one0, true_or, or_true, eq_self, bI_z, bI_nz, bI_o, b_ft, bI_1, bI_0, ↓kC_l, ↓kC_r, Option.toList_some, Option.toList_none, List.cons_append, List.nil_append, s1_0, s1_1i, s1_1r, s1_1w, s1_1n, s1_s, s2_0, s2_1i, s2_1r, s2_1w, s2_1n, s2_s, gI_sI, gI_sR, gI_sL, gI_sD, gR_sI, gR_sR, gR_sL, gR_sD, gL_sI, gL_sR, gL_sL, gL_sD, gD_sI, gD_sR, gD_sL, gD_sD, isK_sI, isK_sR, isK_sL, isK_sD, inL_sI, inL_sR, inL_sL, inL_sD, nx_sI, nx_sR, nx_sL, nx_sD, kd_sI, kd_sR, kd_sL, kd_sD, ln_sI, ln_sR, ln_sL, ln_sD, ↓reduceIte, c8_n, c8_1, c8_2, c8_3, c8_4, Nat.reduceAdd, t10, hn, w0, hh1]
    rw [e_Market_init_15 (i := 10) (hi := p10) (hr := o1)]
    simp only [↓e_Market_init_0, ↓e_Market_init_1, ↓e_Market_init_4, ↓e_Market_init_5, ↓e_Market_init_9, ↓e_Market_init_12, ↓e_Market_init_13, ↓e_Market_init_17, ↓e_Market_init_20, ↓e_Market_init_21, ↓e_Market_init_26, ↓e_Market_init_29, ↓e_Market_init_30, ↓e_Market_init_35, ↓e_Market_init_38, ↓e_Market_init_39, ↓e_Market_init_42, ↓e_Market_init_45, ↓e_Market_init_46, ↓e_Market_init_47, ↓e_Market_init_50, ↓e_Market_init_51, ↓e_Market_init_52, ↓e_Market_init_55, ↓e_Market_init_56, ↓e_Market_init_57, ↓e_Market_init_60, ↓e_Market_init_61, ↓e_Market_init_62, ↓e_Market_init_65, not_true_eq_false, not_false_eq_true, one0, true_or, or_true, eq_self, bI_z, bI_nz, bI_o, b_ft, bI_1, bI_0, ↓kC_l, ↓kC_r, Option.toList_some, Option.toList_none, List.cons_append, List.nil_append, s1_0, s1_1i, s1_1r, s1_1w, s1_1n, s1_s, s2_0, s2_1i, s2_1r, s2_1w, s2_1n, s2_s, gI_sI, gI_sR, gI_sL, gI_sD, gR_sI, gR_sR, gR_sL, gR_sD, gL_sI, gL_sR, gL_sL, gL_sD, gD_sI, gD_sR, gD_sL, gD_sD, isK_sI, isK_sR, isK_sL, isK_sD, inL_sI, inL_sR, inL_sL, inL_sD, nx_sI, nx_sR, nx_sL, nx_sD, kd_sI, kd_sR, kd_sL, kd_sD, ln_sI, ln_sR, ln_sL, ln_sD, ↓reduceIte, c8_n, c8_1, c8_2, c8_3, c8_4, Nat.reduceAdd, t10, n1, w1, hh2]
    rw [e_Market_init_24 (i := 1024) (hi := p1024) (hr := o2)]
    simp only [↓e_Market_init_0, ↓e_Market_init_1, ↓e_Market_init_4, ↓e_Market_init_5, ↓e_Market_init_9, ↓e_Market_init_12, ↓e_Market_init_13, ↓e_Market_init_17, ↓e_Market_init_20, ↓e_Market_init_21, ↓e_Market_init_26, ↓e_Market_init_29, ↓e_Market_init_30, ↓e_Market_init_35, ↓e_Market_init_38, ↓e_Market_init_39, ↓e_Market_init_42, ↓e_Market_init_45, ↓e_Market_init_46, ↓e_Market_init_47, ↓e_Market_init_50, ↓e_Market_init_51, ↓e_Market_init_52, ↓e_Market_init_55, ↓e_Market_init_56, ↓e_Market_init_57, ↓e_Market_init_60, ↓e_Market_init_61, ↓e_Market_init_62, ↓e_Market_init_65, not_true_eq_false, not_false_eq_true, one0, true_or, or_true, eq_self, bI_z, bI_nz, bI_o, b_ft, bI_1, bI_0, ↓kC_l, ↓kC_r, Option.toList_some, Option.toList_none, List.cons_append, List.nil_append, s1_0, s1_1i, s1_1r, s1_1w, s1_1n, s1_s, s2_0, s2_1i, s2_1r, s2_1w, s2_1n, s2_s, gI_sI, gI_sR, gI_sL, gI_sD, gR_sI, gR_sR, gR_sL, gR_sD, gL_sI, gL_sR, gL_sL, gL_sD, gD_sI, gD_sR, gD_sL, gD_sD, isK_sI, isK_sR, isK_sL, isK_sD, inL_sI, inL_sR, inL_sL, inL_sD, nx_sI, nx_sR, nx_sL, nx_sD, kd_sI, kd_sR, kd_sL, kd_sD, ln_sI, ln_sR, ln_sL, ln_sD, ↓reduceIte, c8_n, c8_1, c8_2, c8_3, c8_4, Nat.reduceAdd, t1024, n2, w2, hh3]
    rw [e_Market_init_33 (i := 1024) (hi := p1024) (hr := o3)]
    simp only [↓e_Market_init_0, ↓e_Market_init_1, ↓e_Market_init_4, ↓e_Market_init_5, ↓e_Market_init_9, ↓e_Market_init_12, ↓e_Market_init_13, ↓e_Market_init_17, ↓e_Market_init_20, ↓e_Market_init_21, ↓e_Market_init_26, ↓e_Market_init_29, ↓e_Market_init_30, ↓e_Market_init_35, ↓e_Market_init_38, ↓e_Market_init_39, ↓e_Market_init_42, ↓e_Market_init_45, ↓e_Market_init_46, ↓e_Market_init_47, ↓e_Market_init_50, ↓e_Market_init_51, ↓e_Market_init_52, ↓e_Market_init_55, ↓e_Market_init_56, ↓e_Market_init_57, ↓e_Market_init_60, ↓e_Market_init_61, ↓e_Market_init_62, ↓e_Market_init_65, not_true_eq_false, not_false_eq_true, one0, true_or, or_true, eq_self, bI_z, bI_nz, bI_o, b_ft, bI_1, bI_0, ↓kC_l, ↓kC_r, Option.toList_some, Option.toList_none, List.cons_append, List.nil_append, s1_0, s1_1i, s1_1r, s1_1w, s1_1n, s1_s, s2_0, s2_1i, s2_1r, s2_1w, s2_1n, s2_s, gI_sI, gI_sR, gI_sL, gI_sD, gR_sI, gR_sR, gR_sL, gR_sD, gL_sI, gL_sR, gL_sL, gL_sD, gD_sI, gD_sR, gD_sL, gD_sD, isK_sI, isK_sR, isK_sL, isK_sD, inL_sI, inL_sR, inL_sL, inL_sD, nx_sI, nx_sR, nx_sL, nx_sD, kd_sI, kd_sR, kd_sL, kd_sD, ln_sI, ln_sR, ln_sL, ln_sD, ↓reduceIte, c8_n, c8_1, c8_2, c8_3, c8_4, Nat.reduceAdd, t1024, n3, w3, hh4]
    rw [e_Market_init_40 (i := 5) (hi := p5) (hr := o4)]
    simp only [↓e_Market_init_0, ↓e_Market_init_1, ↓e_Market_init_4, ↓e_Market_init_5, ↓e_Market_init_9, ↓e_Market_init_12, ↓e_Market_init_13, ↓e_Market_init_17, ↓e_Market_init_20, ↓e_Market_init_21, ↓e_Market_init_26, ↓e_Market_init_29, ↓e_Market_init_30, ↓e_Market_init_35, ↓e_Market_init_38, ↓e_Market_init_39, ↓e_Market_init_42, ↓e_Market_init_45, ↓e_Market_init_46, ↓e_Market_init_47, ↓e_Market_init_50, ↓e_Market_init_51, ↓e_Market_init_52, ↓e_Market_init_55, ↓e_Market_init_56, ↓e_Market_init_57, ↓e_Market_init_60, ↓e_Market_init_61, ↓e_Market_init_62, ↓e_Market_init_65, not_true_eq_false, not_false_eq_true, one0, true_or, or_true, eq_self, bI_z, bI_nz, bI_o, b_ft, bI_1, bI_0, ↓kC_l, ↓kC_r, Option.toList_some, Option.toList_none, List.cons_append, List.nil_append, s1_0, s1_1i, s1_1r, s1_1w, s1_1n, s1_s, s2_0, s2_1i, s2_1r, s2_1w, s2_1n, s2_s, gI_sI, gI_sR, gI_sL, gI_sD, gR_sI, gR_sR, gR_sL, gR_sD, gL_sI, gL_sR, gL_sL, gL_sD, gD_sI, gD_sR, gD_sL, gD_sD, isK_sI, isK_sR, isK_sL, isK_sD, inL_sI, inL_sR, inL_sL, inL_sD, nx_sI, nx_sR, nx_sL, nx_sD, kd_sI, kd_sR, kd_sL, kd_sD, ln_sI, ln_sR, ln_sL, ln_sD, ↓reduceIte, c8_n, c8_1, c8_2, c8_3, c8_4, Nat.reduceAdd, t5, n4, w4, hh5, w5, hg]
  · exact (((((S1.mono fun b q => by omega).trans (S2.mono fun b q => by omega)).trans (S3.mono fun b q => by omega)).trans (S4.mono fun b q => by omega)).trans (S5.mono fun b q => by omega)).trans (Sg.mono fun b q => by omega)
  · rw [← hg]
    exact (((((((((K1.trans K2).trans K3).trans K4).trans K5).sI _ _).sI _ _).sI _ _).sI _ _)).le (by omega)
theorem q_countryInit9 (hk : kd h 1 = kc_S) (hn : nx h = 2) (hs : sc h ≤ 100) : ∃ h', (∀ Q, WP Gm j_S_init 0 [some (.inr (.inl (some 1)))] [] h Q = Q (.inl none) h') ∧ C9 h' := by
  generalize hh1 : hN h kc_Land 0 3 = h1
  have n1 : nx h1 = 3 := by rw [← hh1, nx_hN, hn]
  have S1 : Sm (fun b => b < 2) h h1 := by rw [← hh1]; exact (Sm.refl h).hN _ _ _ (by omega)
  have K1 : Km 3 h h1 := by rw [← hh1]; exact (Km.refl h).hN _ _ _
  have c1 := K1.2.2
  have kd1 : kd h1 2 = kc_Land := by rw [← hh1, kd_hN, if_pos hn.symm]
  obtain ⟨h2, e2, S2, K2, n2, L2⟩ := q_landInit kd1 n1 (by omega)
  obtain ⟨h2', e2', -, -, -, -, N2⟩ := q_landInit9 kd1 n1 (by omega)
  obtain ⟨-, rfl⟩ := det e2 e2'
  have c2 := K2.2.2
  generalize hh3 : sR h2 1 0 (some 2) = h3
  have n3 : nx h3 = 77 := by rw [← hh3]; exact n2
  have kd3 : ∀ b, kd h3 b = kd h2 b ∧ ln h3 b = ln h2 b := fun b => by rw [← hh3]; exact ⟨rfl, rfl⟩
  have S3 : Sm (fun b => b ≠ 1) h2 h3 := by rw [← hh3]; exact (Sm.refl h2).sR _ _ (by simp)
  have c3 : sc h3 = sc h2 := by rw [← hh3]; rfl
  generalize hh4 : hN h3 kc_Routes 0 6 = h4
  have n4 : nx h4 = 78 := by rw [← hh4, nx_hN, n3]
  have S4 : Sm (fun b => b < 77) h3 h4 := by rw [← hh4]; exact (Sm.refl h3).hN _ _ _ (by omega)
  have K4 : Km 6 h3 h4 := by rw [← hh4]; exact ((Km.refl h3).hN _ _ _).le (by omega)
  have c4 := K4.2.2
  have kd4 : kd h4 77 = kc_Routes := by rw [← hh4, kd_hN, if_pos n3.symm]
  obtain ⟨h5, e5, S5, K5, n5, R5⟩ := q_routesInit kd4 n4 (by omega)
  obtain ⟨h5', e5', -, -, -, T5, x5⟩ := q_routesInit9 kd4 n4 (by omega)
  obtain ⟨-, rfl⟩ := det e5 e5'
  have c5 := K5.2.2
  generalize hh6 : sR h5 1 1 (some 77) = h6
  have n6 : nx h6 = 114 := by rw [← hh6]; exact n5
  have kd6 : ∀ b, kd h6 b = kd h5 b ∧ ln h6 b = ln h5 b := fun b => by rw [← hh6]; exact ⟨rfl, rfl⟩
  have S6 : Sm (fun b => b ≠ 1) h5 h6 := by rw [← hh6]; exact (Sm.refl h5).sR _ _ (by simp)
  have c6 : sc h6 = sc h5 := by rw [← hh6]; rfl
  generalize hh7 : hN h6 kc_Traffic 0 7 = h7
  have n7 : nx h7 = 115 := by rw [← hh7, nx_hN, n6]
  have S7 : Sm (fun b => b < 114) h6 h7 := by rw [← hh7]; exact (Sm.refl h6).hN _ _ _ (by omega)
  have K7 : Km 7 h6 h7 := by rw [← hh7]; exact ((Km.refl h6).hN _ _ _).le (by omega)
  have c7 := K7.2.2
  have kd7 : kd h7 114 = kc_Traffic := by rw [← hh7, kd_hN, if_pos n6.symm]
  obtain ⟨h8, e8, F8, t1, t2, t3, t4, t5⟩ := q_trafficInit (h := h7) (isK_of (by omega) kd7)
  obtain ⟨h8', e8', T8'⟩ := q_trafficInit9 (h := h7) (isK_of (by omega) kd7)
  obtain ⟨-, rfl⟩ := det e8 e8'
  have n8' : nx h8 = 115 := by rw [F8.2.2.2.2.2.1]; exact n7
  have kd8 : ∀ b, kd h8 b = kd h7 b ∧ ln h8 b = ln h7 b := fun b => ⟨F8.2.2.2.1 b, F8.2.2.2.2.1 b⟩
  have S8 : Sm (fun b => b ≠ 114) h7 h8 := (Sm.refl h7).fr F8 (fun b k q w => q w) (fun b k q w => q w) (fun _ _ _ w => w)
  have c8' : sc h8 = sc h7 := F8.2.2.2.2.2.2
  have T8 : TrD h8 := ⟨by rw [(kd8 114).1]; exact kd7, t1, t2, t3, t4, t5⟩
  generalize hh9 : sR h8 1 2 (some 114) = h9
  have n9 : nx h9 = 115 := by rw [← hh9]; exact n8'
  have kd9 : ∀ b, kd h9 b = kd h8 b ∧ ln h9 b = ln h8 b := fun b => by rw [← hh9]; exact ⟨rfl, rfl⟩
  have S9 : Sm (fun b => b ≠ 1) h8 h9 := by rw [← hh9]; exact (Sm.refl h8).sR _ _ (by simp)
  have c9 : sc h9 = sc h8 := by rw [← hh9]; rfl
  generalize hh10 : hN h9 kc_Market 0 9 = h10
  have n10 : nx h10 = 116 := by rw [← hh10, nx_hN, n9]
  have S10 : Sm (fun b => b < 115) h9 h10 := by rw [← hh10]; exact (Sm.refl h9).hN _ _ _ (by omega)
  have K10 : Km 9 h9 h10 := by rw [← hh10]; exact ((Km.refl h9).hN _ _ _).le (by omega)
  have c10 := K10.2.2
  have kd10 : kd h10 115 = kc_Market := by rw [← hh10, kd_hN, if_pos n9.symm]
  obtain ⟨h11, e11, S11, K11, n11, M11⟩ := q_marketInit kd10 n10 (by omega)
  obtain ⟨h11', e11', -, -, -, x11⟩ := q_marketInit9 kd10 n10 (by omega)
  obtain ⟨-, rfl⟩ := det e11 e11'
  have c11 := K11.2.2
  generalize hh12 : sI (sR h11 1 3 (some 115)) 1 4 0 = h12
  have n12 : nx h12 = 121 := by rw [← hh12]; exact n11
  have kd12 : ∀ b, kd h12 b = kd h11 b ∧ ln h12 b = ln h11 b := fun b => by rw [← hh12]; exact ⟨rfl, rfl⟩
  have S12 : Sm (fun b => b ≠ 1) h11 h12 := by rw [← hh12]; exact ((Sm.refl h11).sR _ _ (by simp)).sI _ _ (by simp)
  have c12 : sc h12 = sc h11 := by rw [← hh12]; rfl
  have k23 : ∀ b, b < 77 → kd h4 b = kd h2 b ∧ ln h4 b = ln h2 b := fun b hb => by rw [(K4.1 b (by omega)).1, (K4.1 b (by omega)).2]; exact kd3 b
  have k25 : ∀ b, b < 77 → kd h5 b = kd h2 b ∧ ln h5 b = ln h2 b := fun b hb => by rw [(K5.1 b (by omega)).1, (K5.1 b (by omega)).2]; exact k23 b hb
  have k57 : ∀ b, b < 114 → kd h8 b = kd h5 b ∧ ln h8 b = ln h5 b := fun b hb => by rw [(kd8 b).1, (kd8 b).2, (K7.1 b (by omega)).1, (K7.1 b (by omega)).2]; exact kd6 b
  have k8e : ∀ b, b < 115 → kd h12 b = kd h8 b ∧ ln h12 b = ln h8 b := fun b hb => by rw [(kd12 b).1, (kd12 b).2, (K11.1 b (by omega)).1, (K11.1 b (by omega)).2, (K10.1 b (by omega)).1, (K10.1 b (by omega)).2]; exact kd9 b
  have k01 : kd h2 1 = kc_S := by rw [(K2.1 1 (by omega)).1, (K1.1 1 (by omega)).1]; exact hk
  have y25 : Sm (fun b => b < 77 ∧ b ≠ 1) h2 h5 := ((S3.mono fun b q => q.2).trans (S4.mono fun b q => q.1)).trans (S5.mono fun b q => q.1)
  have y58 : Sm (fun b => b < 114 ∧ b ≠ 1) h5 h8 := ((S6.mono fun b q => q.2).trans (S7.mono fun b q => q.1)).trans (S8.mono fun b q => by omega)
  have y8e : Sm (fun b => b < 115 ∧ b ≠ 1) h8 h12 := (((S9.mono fun b q => q.2).trans (S10.mono fun b q => q.1)).trans (S11.mono fun b q => q.1)).trans (S12.mono fun b q => q.2)
  have L : LD 8 h12 := L2.keep (((y25.mono fun b q => by omega).trans (y58.mono fun b q => by omega)).trans (y8e.mono fun b q => by omega)) (fun b p q => by rw [(k8e b (by omega)).1, (k8e b (by omega)).2, (k57 b (by omega)).1, (k57 b (by omega)).2]; exact k25 b q)
  have R : RD h12 := R5.keep ((y58.mono fun b q => by omega).trans (y8e.mono fun b q => by omega)) (fun b p q => by rw [(k8e b (by omega)).1, (k8e b (by omega)).2]; exact k57 b q)
  have T : TrD h12 := T8.keep (y8e.mono fun b q => by omega) (k8e 114 (by omega)).1
  have M : MkD h12 := M11.keep (S12.mono fun b q => by omega) (fun b p q => kd12 b)
  have r3 : gR h3 1 0 = some 2 := by rw [← hh3, gR_sR, if_pos ⟨rfl, rfl⟩]
  have r4 : gR h4 1 0 = some 2 := by rw [(S4 1 0 (by omega)).2.1]; exact r3
  have r6 : gR h6 1 0 = some 2 := by rw [← hh6, gR_sR, if_neg (by omega), (S5 1 0 (by omega)).2.1]; exact r4
  have r61 : gR h6 1 1 = some 77 := by rw [← hh6, gR_sR, if_pos ⟨rfl, rfl⟩]
  have e68 : ∀ k, gR h8 1 k = gR h6 1 k := fun k => by rw [(S8 1 k (by omega)).2.1, (S7 1 k (by omega)).2.1]
  have e9e : ∀ k, k ≠ 3 → gR h12 1 k = gR h9 1 k := fun k hk3 => by rw [← hh12, gR_sI, gR_sR, if_neg (by omega), (S11 1 k (by omega)).2.1, (S10 1 k (by omega)).2.1]
  have r9 : ∀ k, k ≠ 2 → gR h9 1 k = gR h6 1 k := fun k hk2 => by rw [← hh9, gR_sR, if_neg (by omega), e68]
  have C : CoD h12 := by
    refine ⟨?_, ?_, ?_, ?_, ?_⟩
    · rw [(k8e 1 (by omega)).1, (k57 1 (by omega)).1, (k25 1 (by omega)).1]; exact k01
    · rw [e9e 0 (by omega), r9 0 (by omega)]; exact r6
    · rw [e9e 1 (by omega), r9 1 (by omega)]; exact r61
    · rw [e9e 2 (by omega), ← hh9, gR_sR, if_pos ⟨rfl, rfl⟩]
    · rw [← hh12, gR_sI, gR_sR, if_pos ⟨rfl, rfl⟩]
  have y2e : Sm (fun b => b < 77 ∧ b ≠ 1) h2 h12 := (y25.trans (y58.mono fun b q => by omega)).trans (y8e.mono fun b q => by omega)
  have y5e : Sm (fun b => b < 114 ∧ b ≠ 1) h5 h12 := y58.trans (y8e.mono fun b q => by omega)
  refine ⟨h12, fun Q => ?_, fun i hi => (N2 i hi).keep (y2e.mono fun b q => by omega), fun i hi k hk => ?_, fun i j hi hj => ⟨(y5e _ _ (by omega)).1.trans (T5 i j hi hj).1, (y5e _ _ (by omega)).1.trans (T5 i j hi hj).2⟩, R.2.2.2, ⟨(y8e _ _ (by omega)).1.trans T8'.1, (y8e _ _ (by omega)).1.trans T8'.2.1, (y8e _ _ (by omega)).1.trans T8'.2.2.1, (y8e _ _ (by omega)).1.trans T8'.2.2.2.1, (y8e _ _ (by omega)).1.trans T8'.2.2.2.2⟩, (y5e _ _ (by omega)).1.trans x5, (S12 _ _ (by omega)).1.trans x11⟩
  · have o1 : okR cM sM h 1 3 = true := ok_small (by omega) (by omega) (by omega) (by omega)
    have o3 : okR cM sM h3 1 6 = true := ok_small (by omega) (by omega) (by omega) (by omega)
    have o6 : okR cM sM h6 1 7 = true := ok_small (by omega) (by omega) (by omega) (by omega)
    have o9 : okR cM sM h9 1 9 = true := ok_small (by omega) (by omega) (by omega) (by omega)
    have g1 : isK h1 2 kc_Land = true := isK_of (by omega) kd1
    have g2 : isK h2 1 kc_S = true := isK_of (by omega) k01
    have g4 : isK h4 77 kc_Routes = true := isK_of (by omega) kd4
    have g4' : isK h4 1 kc_S = true := isK_of (by omega) (by rw [(k23 1 (by omega)).1]; exact k01)
    have g5 : isK h5 1 kc_S = true := isK_of (by omega) (by rw [(k25 1 (by omega)).1]; exact k01)
    have g7 : isK h7 114 kc_Traffic = true := isK_of (by omega) kd7
    have g7' : isK h7 1 kc_S = true := isK_of (by omega) (by rw [(K7.1 1 (by omega)).1, (kd6 1).1, (k25 1 (by omega)).1]; exact k01)
    have r7 : gR h7 1 0 = some 2 ∧ gR h7 1 1 = some 77 := ⟨by rw [(S7 1 0 (by omega)).2.1]; exact r6, by rw [(S7 1 1 (by omega)).2.1]; exact r61⟩
    have g8 : isK h8 1 kc_S = true := isK_of (by omega) (by rw [(k57 1 (by omega)).1, (k25 1 (by omega)).1]; exact k01)
    have g10 : isK h10 115 kc_Market = true := isK_of (by omega) kd10
    have g11 : isK h11 1 kc_S = true := isK_of (by omega) (by rw [(K11.1 1 (by omega)).1, (K10.1 1 (by omega)).1, (kd9 1).1, (k57 1 (by omega)).1, (k25 1 (by omega)).1]; exact k01)
    simp only [↓e_S_init_0, ↓e_S_init_1, ↓e_S_init_4, ↓e_S_init_5, ↓e_S_init_8, ↓e_S_init_9, ↓e_S_init_12, ↓e_S_init_15, ↓e_S_init_16, ↓e_S_init_19, ↓e_S_init_20, ↓e_S_init_21, ↓e_S_init_24, ↓e_S_init_27, ↓e_S_init_30, ↓e_S_init_31, ↓e_S_init_34, ↓e_S_init_35, ↓e_S_init_36, ↓e_S_init_39, ↓e_S_init_40, ↓e_S_init_43, ↓e_S_init_46, ↓e_S_init_49, ↓e_S_init_50, ↓e_S_init_53, ↓e_S_init_54, ↓e_S_init_57, ↓e_S_init_60, ↓e_S_init_61, ↓e_S_init_62, ↓e_S_init_65, not_true_eq_false, not_false_eq_true, one0, true_or, or_true, eq_self, bI_z, bI_nz, bI_o, b_ft, bI_1, bI_0, ↓kC_l, ↓kC_r, Option.toList_some, Option.toList_none, List.cons_append, List.nil_append, s1_0, s1_1i, s1_1r, s1_1w, s1_1n, s1_s, s2_0, s2_1i, s2_1r, s2_1w, s2_1n, s2_s, gI_sI, gI_sR, gI_sL, gI_sD, gR_sI, gR_sR, gR_sL, gR_sD, gL_sI, gL_sR, gL_sL, gL_sD, gD_sI, gD_sR, gD_sL, gD_sD, isK_sI, isK_sR, isK_sL, isK_sD, inL_sI, inL_sR, inL_sL, inL_sD, nx_sI, nx_sR, nx_sL, nx_sD, kd_sI, kd_sR, kd_sL, kd_sD, ln_sI, ln_sR, ln_sL, ln_sD, ↓reduceIte, c8_n, c8_1, c8_2, c8_3, c8_4, Nat.reduceAdd, o1, hn, hh1, g1, e2, g2, hh3, o3, n3, hh4, g4, g4', r4, e5, g5, hh6, o6, n6, hh7, g7, g7', r7.1, r7.2, e8, g8, hh9, o9, n9, hh10, g10, e11, g11, hh12]
  · obtain ⟨-, -, -, ⟨-, -, -, -, q5⟩, -⟩ := (L.2.2.2.2.2.2.2.2.2 i hi).2
    have := (q5 k hk).1
    rwa [show 5 + 9 * i + 1 + 1 = 7 + 9 * i by omega, show 5 + 9 * i + 1 + 2 + k = 8 + 9 * i + k by omega] at this
def α0 : As := (fun a k => if a = 50 ∧ k = 3 then 41 else 0, fun _ => 0, fun _ _ _ => 0, fun _ _ => false)
theorem ca_start (C : C9 h) (R : Rt h c) : CA 0 h α0 := by
  obtain ⟨c1, c2, c3, c4, ⟨d2, d3, d4, d5, d6⟩, d7, d8⟩ := C
  have tn : ∀ t, (t = 78 ∨ t = 96) → Cn 0 h t := fun t ht i j hi hj _ => by
    have q1 := c3 i j hi hj
    have q2 := c4 i j hi hj
    rcases ht with rfl | rfl
    · exact ⟨q1.1, q2.1⟩
    · exact ⟨q1.2, q2.2⟩
  have hc := R.1
  refine ⟨fun i hi => absurd hi (by omega), fun i hi => absurd hi (by omega), fun i hi k l hk hl q => ?_, fun j hj => absurd hj (by omega), ⟨fun k h1 h2 => ?_, d7, d8⟩, fun i k hi => absurd hi (by omega), ⟨c, R, fun i hi => absurd hi (by omega), tn c hc, tn (174 - c) (by omega)⟩, fun i _ hi => c1 i hi, fun i hi => absurd hi (by omega)⟩
  · rw [c2 i hi k hk, c2 i hi l hl] at q
    have := Option.some.inj q
    omega
  · have : k = 2 ∨ k = 3 ∨ k = 4 ∨ k = 5 ∨ k = 6 := by omega
    rcases this with rfl | rfl | rfl | rfl | rfl
    · exact d2
    · exact d3
    · exact d4
    · exact d5
    · exact d6
theorem ra_start {τ : Nat → Nat} {p : Nat → Nat} {K : Int32} (R : RM τ 0 p (8 * 0) c 0 K h) (g : ∀ j, j < 8 → gI h 121 j = if j = 2 then 41 else 0) : RA τ 0 p c 0 h α0 := by
  obtain ⟨k, k1, -, L⟩ := R.al
  have k0 : k = 0 := by omega
  subst k0
  refine ⟨fun i hi => absurd hi (by omega), fun i hi => absurd hi (by omega), fun i hi => absurd hi (by omega), fun k h1 h2 => ?_, ⟨0, fun _ => (0, 0), L.mono fun j f hj _ => absurd hj (by omega), fun j hj => absurd hj (by omega), fun i k hi => absurd hi (by omega), rfl⟩, fun i hi => absurd hi (by omega)⟩
  rw [g _ (by omega)]
  show _ = if 50 = 50 ∧ k = 3 then (41 : Int32) else 0
  by_cases e : k = 3
  · rw [if_pos (by omega), if_pos ⟨rfl, e⟩]
  · rw [if_neg (by omega), if_neg (by omega)]
end XLB
