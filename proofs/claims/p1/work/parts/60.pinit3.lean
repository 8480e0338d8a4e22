/-! pinit3: the constructors: land, routes -/
section IN3
variable {h : Hp}
def LD (m : Nat) (h : Hp) : Prop := kd h 2 = kc_Land ∧ gR h 2 0 = some 3 ∧ gR h 2 1 = some 4 ∧ gI h 2 2 = 0 ∧ kd h 3 = 102 ∧ ln h 3 = 8 ∧ kd h 4 = 100 ∧ ln h 4 = 8 ∧ (∀ k, gI h 4 k = 0) ∧ ∀ i, i < m → gR h 3 i = some (5 + 9 * i) ∧ ND (5 + 9 * i) h
theorem LD.keep {h' : Hp} (q : LD 8 h) (x : Sm (fun b => 2 ≤ b ∧ b < 77) h h') (ek : ∀ b, 2 ≤ b → b < 77 → kd h' b = kd h b ∧ ln h' b = ln h b) : LD 8 h' := by
  obtain ⟨q1, q2, q3, q4, q5, q6, q7, q8, q9, q10⟩ := q
  exact ⟨by rw [(ek 2 (by omega) (by omega)).1]; exact q1, by rw [(x 2 0 (by omega)).2.1]; exact q2, by rw [(x 2 1 (by omega)).2.1]; exact q3, by rw [(x 2 2 (by omega)).1]; exact q4, by rw [(ek 3 (by omega) (by omega)).1]; exact q5, by rw [(ek 3 (by omega) (by omega)).2]; exact q6, by rw [(ek 4 (by omega) (by omega)).1]; exact q7, by rw [(ek 4 (by omega) (by omega)).2]; exact q8, fun k => by rw [(x 4 k (by omega)).1]; exact q9 k, fun i hi => ⟨by rw [(x 3 i (by omega)).2.1]; exact (q10 i hi).1, (q10 i hi).2.keep (x.mono fun b q => by omega) fun b p r => ek b (by omega) (by omega)⟩⟩
theorem q_landInit (hk : kd h 2 = kc_Land) (hn : nx h = 3) (hs : sc h ≤ 1000) : ∃ h', (∀ Q, WP Gm j_Land_init 0 [some (.inr (.inl (some 2))), none] [] h Q = Q (.inl none) h') ∧ Sm (fun b => b < 2) h h' ∧ Km 464 h h' ∧ nx h' = 77 ∧ LD 8 h' := by
  generalize hg1 : sR (hN h 102 8 8) 2 0 (some 3) = g1
  have n1 : nx g1 = 4 := by rw [← hg1, nx_sR, nx_hN, hn]
  have sc1 : sc g1 = sc h + 8 := by rw [← hg1]; rfl
  have kd1 : ∀ b, kd g1 b = if b = 3 then 102 else kd h b := fun b => by rw [← hg1, kd_sR, kd_hN, hn]
  have ln1 : ∀ b, ln g1 b = if b = 3 then 8 else ln h b := fun b => by rw [← hg1, ln_sR, ln_hN, hn]
  have r1 : gR g1 2 0 = some 3 := by rw [← hg1, gR_sR, if_pos ⟨rfl, rfl⟩]
  generalize hg0 : sI (sR (hN g1 100 8 8) 2 1 (some 4)) 2 2 0 = g0
  have n0 : nx g0 = 5 := by rw [← hg0, nx_sI, nx_sR, nx_hN, n1]
  have kd0 : ∀ b, kd g0 b = if b = 4 then 100 else kd g1 b := fun b => by rw [← hg0, kd_sI, kd_sR, kd_hN, n1]
  have ln0 : ∀ b, ln g0 b = if b = 4 then 8 else ln g1 b := fun b => by rw [← hg0, ln_sI, ln_sR, ln_hN, n1]
  have s0 : Sm (fun b => b < 2) h g0 := by
    have x1 : Sm (fun b => b < 2) h g1 := by rw [← hg1]; exact ((Sm.refl h).hN _ _ _ (by omega)).sR _ _ (by omega)
    rw [← hg0]
    exact ((x1.hN _ _ _ (by omega)).sR _ _ (by omega)).sI _ _ (by omega)
  have m0 : Km 16 h g0 := by
    have x1 : Km 8 h g1 := by rw [← hg1]; exact ((Km.refl h).hN 102 8 8).sR _ _
    rw [← hg0]
    exact ((x1.hN 100 8 8).sR _ _).sI _ _
  have d0 : LD 0 g0 := by
    refine ⟨by rw [kd0, if_neg (by omega), kd1, if_neg (by omega)]; exact hk, ?_, ?_, ?_, by rw [kd0, if_neg (by omega), kd1, if_pos rfl], by rw [ln0, if_neg (by omega), ln1, if_pos rfl], by rw [kd0, if_pos rfl], by rw [ln0, if_pos rfl], fun k => ?_, fun i hi => absurd hi (by omega)⟩
    · rw [← hg0, gR_sI, gR_sR, if_neg (by omega), gR_hN, n1, if_neg (by omega)]; exact r1
    · rw [← hg0, gR_sI, gR_sR, if_pos ⟨rfl, rfl⟩]
    · rw [← hg0, gI_sI, if_pos ⟨rfl, rfl⟩]
    · rw [← hg0, gI_sI, if_neg (by omega), gI_sR, gI_hN, n1, if_pos rfl]
  obtain ⟨g, e1, gs, gm, gn, gd⟩ := loopR (fun Q k (g : Hp) => WP Gm j_Land_init 28 [some (.inr (.inl (some 2))), some (.inl (ii k))] [] g Q)
    (fun k g => Sm (fun b => b < 2) h g ∧ Km (16 + 56 * k) h g ∧ nx g = 5 + 9 * k ∧ LD k g) 8
    (fun k g hk8 hI => by
      obtain ⟨gs, gm, gn, gd⟩ := hI
      obtain ⟨q1, q2, q3, q4, q5, q6, q7, q8, q9, q10⟩ := id gd
      have hsc := gm.2.2
      have f1 : isK g 2 kc_Land = true := isK_of (by omega) q1
      have hr : okR cM sM g 1 16 = true := ok_small (by omega) (by omega) (by omega) (by omega)
      generalize hu : hN g kc_Node 0 16 = u
      have nu : nx u = 5 + 9 * k + 1 := by rw [← hu, nx_hN, gn]
      have su : sc u = sc g + 16 := by rw [← hu, sc_hN]
      have kdu : ∀ b, kd u b = if b = 5 + 9 * k then kc_Node else kd g b := fun b => by rw [← hu, kd_hN, gn]
      have lnu : ∀ b, ln u b = if b = 5 + 9 * k then 0 else ln g b := fun b => by rw [← hu, ln_hN, gn]
      have f2 : isK u (5 + 9 * k) kc_Node = true := isK_of (by omega) (by rw [kdu, if_pos rfl])
      obtain ⟨w, e2, S2, K2, n2, N2⟩ := q_nodeInit (h := u) (a := 5 + 9 * k) (by rw [kdu, if_pos rfl]) nu (by omega) (by omega)
      have kw : ∀ b, b < 5 + 9 * k → kd w b = kd g b ∧ ln w b = ln g b := fun b hb => by
        rw [(K2.1 b (by omega)).1, (K2.1 b (by omega)).2, kdu, if_neg (by omega), lnu, if_neg (by omega)]
        exact ⟨rfl, rfl⟩
      have xw : Sm (fun b => b < 5 + 9 * k) g w := by
        have x1 : Sm (fun b => b < 5 + 9 * k) g u := by rw [← hu]; exact (Sm.refl g).hN _ _ _ (by omega)
        exact x1.trans S2
      have f3 : isK w 3 102 = true := isK_of (by omega) (by rw [(kw 3 (by omega)).1]; exact q5)
      have f4 : inL w 3 (ii k) = true := inL_n (by omega) (by rw [(kw 3 (by omega)).2, q6]; exact hk8)
      have f5 : isK w (5 + 9 * k) kc_Node = true := isK_of (by omega) N2.1
      have hle : ((8 : Int32) ≤ ii k) = False := lle_f (n := 8) (by omega) hk8
      refine ⟨sR w 3 k (some (5 + 9 * k)), fun Q => ?_, ?_, ?_, ?_, ?_, ?_, ?_, ?_, ?_, ?_, ?_, ?_, fun j => ?_, fun i hi => ⟨?_, ?_⟩⟩
      · rw [e_Land_init_28]
        simp only [↓e_Land_init_0, ↓e_Land_init_1, ↓e_Land_init_4, ↓e_Land_init_5, ↓e_Land_init_7, ↓e_Land_init_10, ↓e_Land_init_13, ↓e_Land_init_14, ↓e_Land_init_16, ↓e_Land_init_18, ↓e_Land_init_21, ↓e_Land_init_22, ↓e_Land_init_23, ↓e_Land_init_26, ↓e_Land_init_27, ↓e_Land_init_29, ↓e_Land_init_31, ↓e_Land_init_34, ↓e_Land_init_35, ↓e_Land_init_38, ↓e_Land_init_39, ↓e_Land_init_42, ↓e_Land_init_43, ↓e_Land_init_46, ↓e_Land_init_47, ↓e_Land_init_50, ↓e_Land_init_53, not_true_eq_false, not_false_eq_true, one0, true_or, or_true, eq_self, bI_z, bI_nz, bI_o, b_ft, bI_1, bI_0, ↓kC_l, ↓kC_r, Option.toList_some, Option.toList_none, List.cons_append, List.nil_append, s1_0, s1_1i, s1_1r, s1_1w, s1_1n, s1_s, s2_0, s2_1i, s2_1r, s2_1w, s2_1n, s2_s, gI_sI, gI_sR, gI_sL, gI_sD, gR_sI, gR_sR, gR_sL, gR_sD, gL_sI, gL_sR, gL_sL, gL_sD, gD_sI, gD_sR, gD_sL, gD_sD, isK_sI, isK_sR, isK_sL, isK_sD, inL_sI, inL_sR, inL_sL, inL_sD, nx_sI, nx_sR, nx_sL, nx_sD, kd_sI, kd_sR, kd_sL, kd_sD, ln_sI, ln_sR, ln_sL, ln_sD, ↓reduceIte, c8_n, c8_1, c8_2, c8_3, c8_4, Nat.reduceAdd, hle, f1, q2, hr, hu, gn, f2, e2, f3, f4, f5, ii_nat (show k < 2147483648 by omega), ii_succ]
      · exact (gs.trans (xw.mono fun b q => by omega)).sR _ _ (by omega)
      · have m1 : Km (16 + 56 * k + 16) h u := by rw [← hu]; exact gm.hN _ _ _
        exact ((m1.trans K2).sR _ _).le (by omega)
      · rw [nx_sR, n2]; omega
      · rw [kd_sR, (kw 2 (by omega)).1]; exact q1
      · rw [gR_sR, if_neg (by omega), (xw 2 0 (by omega)).2.1]; exact q2
      · rw [gR_sR, if_neg (by omega), (xw 2 1 (by omega)).2.1]; exact q3
      · rw [gI_sR, (xw 2 2 (by omega)).1]; exact q4
      · rw [kd_sR, (kw 3 (by omega)).1]; exact q5
      · rw [ln_sR, (kw 3 (by omega)).2]; exact q6
      · rw [kd_sR, (kw 4 (by omega)).1]; exact q7
      · rw [ln_sR, (kw 4 (by omega)).2]; exact q8
      · rw [gI_sR, (xw 4 j (by omega)).1]; exact q9 j
      · rw [gR_sR]
        by_cases e : i = k
        · rw [if_pos ⟨rfl, e⟩, e]
        · rw [if_neg (fun q => e q.2), (xw 3 i (by omega)).2.1]
          exact (q10 i (by omega)).1
      · by_cases e : i = k
        · subst e
          exact N2.keep ((Sm.refl w).sR _ _ (by omega)) (fun b _ _ => ⟨rfl, rfl⟩)
        · refine (q10 i (by omega)).2.keep ((xw.mono fun b q => by omega).sR _ _ (by omega)) (fun b p r => ?_)
          rw [kd_sR, ln_sR]
          exact kw b (by omega)) 8 0 g0 (by omega) ⟨s0, m0, n0, d0⟩
  refine ⟨g, fun Q => ?_, gs, gm, gn, gd⟩
  have t8 : Int32.toNatClampNeg 8 = 8 := by decide
  have hi : (0 : Int32) ≤ 8 ∧ (8 : Int32).toNatClampNeg ≤ 1000000 := by decide
  have hr : okR cM sM h 1 (Int32.toNatClampNeg 8) = true := ok_small (by omega) (by omega) (by omega) (by decide)
  have hr1 : okR cM sM g1 1 (Int32.toNatClampNeg 8) = true := ok_small (by omega) (by omega) (by omega) (by decide)
  have f1 : isK (hN h 102 8 8) 2 kc_Land = true := isK_of (by rw [nx_hN]; omega) (by rw [kd_hN, if_neg (by omega)]; exact hk)
  have f2 : isK (hN g1 100 8 8) 2 kc_Land = true := isK_of (by rw [nx_hN]; omega) (by rw [kd_hN, if_neg (by omega), kd1, if_neg (by omega)]; exact hk)
  have pre : WP Gm j_Land_init 0 [some (.inr (.inl (some 2))), none] [] h Q = WP Gm j_Land_init 28 [some (.inr (.inl (some 2))), some (.inl (ii 0))] [] g0 Q := by
    simp only [↓e_Land_init_0, ↓e_Land_init_1, ↓e_Land_init_4, ↓e_Land_init_5, ↓e_Land_init_10, ↓e_Land_init_13, ↓e_Land_init_14, ↓e_Land_init_18, ↓e_Land_init_21, ↓e_Land_init_22, ↓e_Land_init_23, ↓e_Land_init_26, ↓e_Land_init_27, ↓e_Land_init_29, ↓e_Land_init_31, ↓e_Land_init_34, ↓e_Land_init_35, ↓e_Land_init_38, ↓e_Land_init_39, ↓e_Land_init_42, ↓e_Land_init_43, ↓e_Land_init_46, ↓e_Land_init_47, ↓e_Land_init_50, ↓e_Land_init_53, not_true_eq_false, not_false_eq_true, one0, true_or, or_true, eq_self, bI_z, bI_nz, bI_o, b_ft, bI_1, bI_0, ↓kC_l, ↓kC_r, Option.toList_some, Option.toList_none, List.cons_append, List.nil_append, s1_0, s1_1i, s1_1r, s1_1w, s1_1n, s1_s, s2_0, s2_1i, s2_1r, s2_1w, s2_1n, s2_s, gI_sI, gI_sR, gI_sL, gI_sD, gR_sI, gR_sR, gR_sL, gR_sD, gL_sI, gL_sR, gL_sL, gL_sD, gD_sI, gD_sR, gD_sL, gD_sD, isK_sI, isK_sR, isK_sL, isK_sD, inL_sI, inL_sR, inL_sL, inL_sD, nx_sI, nx_sR, nx_sL, nx_sD, kd_sI, kd_sR, kd_sL, kd_sD, ln_sI, ln_sR, ln_sL, ln_sD, ↓reduceIte, c8_n, c8_1, c8_2, c8_3, c8_4, Nat.reduceAdd]
    rw [e_Land_init_7 (i := 8) (hi := hi) (hr := hr)]
    simp only [↓e_Land_init_0, ↓e_Land_init_1, ↓e_Land_init_4, ↓e_Land_init_5, ↓e_Land_init_10, ↓e_Land_init_13, ↓e_Land_init_14, ↓e_Land_init_18, ↓e_Land_init_21, ↓e_Land_init_22, ↓e_Land_init_23, ↓e_Land_init_26, ↓e_Land_init_27, ↓e_Land_init_29, ↓e_Land_init_31, ↓e_Land_init_34, ↓e_Land_init_35, ↓e_Land_init_38, ↓e_Land_init_39, ↓e_Land_init_42, ↓e_Land_init_43, ↓e_Land_init_46, ↓e_Land_init_47, ↓e_Land_init_50, ↓e_Land_init_53, not_true_eq_false, not_false_eq_true, one0, true_or, or_true, eq_self, bI_z, bI_nz, bI_o, b_ft, bI_1, bI_0, ↓kC_l, ↓kC_r, Option.toList_some, Option.toList_none, List.cons_append, List.nil_append, s1_0, s1_1i, s1_1r, s1_1w, s1_1n, s1_s, s2_0, s2_1i, s2_1r, s2_1w, s2_1n, s2_s, gI_sI, gI_sR, gI_sL, gI_sD, gR_sI, gR_sR, gR_sL, gR_sD, gL_sI, gL_sR, gL_sL, gL_sD, gD_sI, gD_sR, gD_sL, gD_sD, isK_sI, isK_sR, isK_sL, isK_sD, inL_sI, inL_sR, inL_sL, inL_sD, nx_sI, nx_sR, nx_sL, nx_sD, kd_sI, kd_sR, kd_sL, kd_sD, ln_sI, ln_sR, ln_sL, ln_sD, ↓reduceIte, c8_n, c8_1, c8_2, c8_3, c8_4, Nat.reduceAdd, t8, hn, f1, hg1]
    rw [e_Land_init_16 (i := 8) (hi := hi) (hr := hr1)]
    simp only [↓e_Land_init_0, ↓e_Land_init_1, ↓e_Land_init_4, ↓e_Land_init_5, ↓e_Land_init_10, ↓e_Land_init_13, ↓e_Land_init_14, ↓e_Land_init_18, ↓e_Land_init_21, ↓e_Land_init_22, ↓e_Land_init_23, ↓e_Land_init_26, ↓e_Land_init_27, ↓e_Land_init_29, ↓e_Land_init_31, ↓e_Land_init_34, ↓e_Land_init_35, ↓e_Land_init_38, ↓e_Land_init_39, ↓e_Land_init_42, ↓e_Land_init_43, ↓e_Land_init_46, ↓e_Land_init_47, ↓e_Land_init_50, ↓e_Land_init_53, not_true_eq_false, not_false_eq_true, one0, true_or, or_true, eq_self, bI_z, bI_nz, bI_o, b_ft, bI_1, bI_0, ↓kC_l, ↓kC_r, Option.toList_some, Option.toList_none, List.cons_append, List.nil_append, s1_0, s1_1i, s1_1r, s1_1w, s1_1n, s1_s, s2_0, s2_1i, s2_1r, s2_1w, s2_1n, s2_s, gI_sI, gI_sR, gI_sL, gI_sD, gR_sI, gR_sR, gR_sL, gR_sD, gL_sI, gL_sR, gL_sL, gL_sD, gD_sI, gD_sR, gD_sL, gD_sD, isK_sI, isK_sR, isK_sL, isK_sD, inL_sI, inL_sR, inL_sL, inL_sD, nx_sI, nx_sR, nx_sL, nx_sD, kd_sI, kd_sR, kd_sL, kd_sD, ln_sI, ln_sR, ln_sL, ln_sD, ↓reduceIte, c8_n, c8_1, c8_2, c8_3, c8_4, Nat.reduceAdd, t8, n1, f2, hg0]
    rfl
  rw [pre]
  refine (e1 Q).trans ?_
  rw [e_Land_init_28]
  simp only [↓e_Land_init_0, ↓e_Land_init_1, ↓e_Land_init_4, ↓e_Land_init_5, ↓e_Land_init_7, ↓e_Land_init_10, ↓e_Land_init_13, ↓e_Land_init_14, ↓e_Land_init_16, ↓e_Land_init_18, ↓e_Land_init_21, ↓e_Land_init_22, ↓e_Land_init_23, ↓e_Land_init_26, ↓e_Land_init_27, ↓e_Land_init_29, ↓e_Land_init_31, ↓e_Land_init_34, ↓e_Land_init_35, ↓e_Land_init_38, ↓e_Land_init_39, ↓e_Land_init_42, ↓e_Land_init_43, ↓e_Land_init_46, ↓e_Land_init_47, ↓e_Land_init_50, ↓e_Land_init_53, not_true_eq_false, not_false_eq_true, one0, true_or, or_true, eq_self, bI_z, bI_nz, bI_o, b_ft, bI_1, bI_0, ↓kC_l, ↓kC_r, Option.toList_some, Option.toList_none, List.cons_append, List.nil_append, s1_0, s1_1i, s1_1r, s1_1w, s1_1n, s1_s, s2_0, s2_1i, s2_1r, s2_1w, s2_1n, s2_s, gI_sI, gI_sR, gI_sL, gI_sD, gR_sI, gR_sR, gR_sL, gR_sD, gL_sI, gL_sR, gL_sL, gL_sD, gD_sI, gD_sR, gD_sL, gD_sD, isK_sI, isK_sR, isK_sL, isK_sD, inL_sI, inL_sR, inL_sL, inL_sD, nx_sI, nx_sR, nx_sL, nx_sD, kd_sI, kd_sR, kd_sL, kd_sD, ln_sI, ln_sR, ln_sL, ln_sD, ↓reduceIte, c8_n, c8_1, c8_2, c8_3, c8_4, Nat.reduceAdd, (show ((8 : Int32) ≤ ii 8) = True from eq_true (by decide))]
/-- a table of routes at t: its rows at t + 1 + i -/
def TB (t : Nat) (h : Hp) : Prop := kd h t = 104 ∧ ln h t = 8 ∧ ∀ i, i < 8 → gR h t i = some (t + 1 + i) ∧ kd h (t + 1 + i) = 100 ∧ ln h (t + 1 + i) = 8
theorem TB.keep {h' : Hp} {t : Nat} (q : TB t h) (x : Sm (fun b => t ≤ b ∧ b < t + 9) h h') (ek : ∀ b, t ≤ b → b < t + 9 → kd h' b = kd h b ∧ ln h' b = ln h b) : TB t h' := by
  obtain ⟨q1, q2, q3⟩ := q
  refine ⟨by rw [(ek t (by omega) (by omega)).1]; exact q1, by rw [(ek t (by omega) (by omega)).2]; exact q2, fun i hi => ?_⟩
  obtain ⟨r1, r2, r3⟩ := q3 i hi
  exact ⟨by rw [(x t i (by omega)).2.1]; exact r1, by rw [(ek (t + 1 + i) (by omega) (by omega)).1]; exact r2, by rw [(ek (t + 1 + i) (by omega) (by omega)).2]; exact r3⟩
theorem tb_make {t : Nat} (hn : nx h = t) : TB t (hM h 4 0 8 8) ∧ Sm (fun b => b < t) h (hM h 4 0 8 8) ∧ Km 72 h (hM h 4 0 8 8) ∧ nx (hM h 4 0 8 8) = t + 9 := by
  refine ⟨⟨by rw [kd_hM, if_pos hn.symm], by rw [ln_hM, if_pos hn.symm], fun i hi => ⟨by rw [gR_hM, if_pos hn.symm, if_pos hi, hn], by rw [kd_hM, if_neg (by omega), if_pos (by omega)], by rw [ln_hM, if_neg (by omega), if_pos (by omega)]⟩⟩, fun b k q => ⟨by rw [gI_hM, if_neg (by omega)], by rw [gR_hM, if_neg (by omega), if_neg (by omega)], by rw [gL_hM, if_neg (by omega)]⟩, ⟨fun b hb => ⟨by rw [kd_hM, if_neg (by omega), if_neg (by omega)], by rw [ln_hM, if_neg (by omega), if_neg (by omega)]⟩, by rw [nx_hM]; omega, by rw [sc_hM]; omega⟩, by rw [nx_hM]; omega⟩
end IN3
