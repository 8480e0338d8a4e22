/-! pinit5: the constructors: traffic, market, the country -/
section IN5
variable {h : Hp}
theorem q_trafficInit (hk : isK h 114 kc_Traffic = true) : ∃ h', (∀ Q, WP Gm j_Traffic_init 0 [some (.inr (.inl (some 114))), some (.inr (.inl (some 2))), some (.inr (.inl (some 77)))] [] h Q = Q (.inl none) h') ∧ Fr (fun b _ => b = 114) (fun b _ => b = 114) nW h h' ∧ gI h' 114 2 = 0 ∧ gI h' 114 3 = 41 ∧ gI h' 114 4 = 0 ∧ gR h' 114 0 = some 2 ∧ gR h' 114 1 = some 77 := by
  refine ⟨sR (sR (sI (sI (sI (sI (sI h 114 2 0) 114 3 41) 114 4 0) 114 5 0) 114 6 0) 114 0 (some 2)) 114 1 (some 77), fun Q => ?_, ?_, ?_, ?_, ?_, ?_, ?_⟩
  · simp only [↓e_Traffic_init_0, ↓e_Traffic_init_1, ↓e_Traffic_init_4, ↓e_Traffic_init_5, ↓e_Traffic_init_6, ↓e_Traffic_init_9, ↓e_Traffic_init_10, ↓e_Traffic_init_12, ↓e_Traffic_init_15, ↓e_Traffic_init_16, ↓e_Traffic_init_17, ↓e_Traffic_init_20, ↓e_Traffic_init_21, ↓e_Traffic_init_22, ↓e_Traffic_init_25, ↓e_Traffic_init_26, ↓e_Traffic_init_27, ↓e_Traffic_init_30, ↓e_Traffic_init_31, ↓e_Traffic_init_32, ↓e_Traffic_init_35, ↓e_Traffic_init_36, ↓e_Traffic_init_37, ↓e_Traffic_init_40, not_true_eq_false, not_false_eq_true, one0, true_or, or_true, eq_self, bI_z, bI_nz, bI_o, b_ft, bI_1, bI_0, ↓kC_l, ↓kC_r, Option.toList_some, Option.toList_none, List.cons_append, List.nil_append, s1_0, s1_1i, s1_1r, s1_1w, s1_1n, s1_s, s2_0, s2_1i, s2_1r, s2_1w, s2_1n, s2_s, gI_sI, gI_sR, gI_sL, gI_sD, gR_sI, gR_sR, gR_sL, gR_sD, gL_sI, gL_sR, gL_sL, gL_sD, gD_sI, gD_sR, gD_sL, gD_sD, isK_sI, isK_sR, isK_sL, isK_sD, inL_sI, inL_sR, inL_sL, inL_sD, nx_sI, nx_sR, nx_sL, nx_sD, kd_sI, kd_sR, kd_sL, kd_sD, ln_sI, ln_sR, ln_sL, ln_sD, ↓reduceIte, c8_n, c8_1, c8_2, c8_3, c8_4, Nat.reduceAdd, hk]
  · exact (((((((Fr.refl (WI := fun b _ => b = 114) (WR := fun b _ => b = 114) (WL := nW) h).sI _ rfl).sI _ rfl).sI _ rfl).sI _ rfl).sI _ rfl).sR _ rfl).sR _ rfl
  · simp [gI_sR, gI_sI]
  · simp [gI_sR, gI_sI]
  · simp [gI_sR, gI_sI]
  · simp [gR_sR]
  · simp [gR_sR]
/-- a new row at the end of the heap -/
def AR (t len : Nat) (h : Hp) : Prop := kd h t = 100 ∧ ln h t = len ∧ ∀ k, gI h t k = 0
theorem AR.keep {h' : Hp} {t len : Nat} (q : AR t len h) (x : Sm (fun b => b = t) h h') (ek : kd h' t = kd h t ∧ ln h' t = ln h t) : AR t len h' :=
  ⟨by rw [ek.1]; exact q.1, by rw [ek.2]; exact q.2.1, fun k => by rw [(x t k rfl).1]; exact q.2.2 k⟩
def MkD (h : Hp) : Prop := kd h 115 = kc_Market ∧ (gR h 115 0 = some 116 ∧ gR h 115 1 = some 117 ∧ gR h 115 2 = some 118 ∧ gR h 115 3 = some 119 ∧ gR h 115 4 = some 120) ∧ (AR 116 10 h ∧ AR 117 10 h ∧ AR 118 1024 h ∧ AR 119 1024 h ∧ AR 120 5 h) ∧ gI h 115 5 = 0 ∧ gI h 115 6 = 0 ∧ gI h 115 7 = 0
theorem ar_make {t k len : Nat} (hn : nx h = t) (ht : 115 < t) : AR t len (sR (hN h 100 len len) 115 k (some t)) ∧ Sm (fun b => b < 115 ∨ (115 < b ∧ b < t)) h (sR (hN h 100 len len) 115 k (some t)) ∧ Km len h (sR (hN h 100 len len) 115 k (some t)) ∧ nx (sR (hN h 100 len len) 115 k (some t)) = t + 1 ∧
    (∀ j, gI (sR (hN h 100 len len) 115 k (some t)) 115 j = gI h 115 j) ∧ ∀ j, gR (sR (hN h 100 len len) 115 k (some t)) 115 j = if j = k then some t else gR h 115 j := by
  refine ⟨⟨by rw [kd_sR, kd_hN, if_pos hn.symm], by rw [ln_sR, ln_hN, if_pos hn.symm], fun j => by rw [gI_sR, gI_hN, if_pos hn.symm]⟩, ((Sm.refl h).hN _ _ _ (by omega)).sR _ _ (by omega), ((Km.refl h).hN 100 len len).sR _ _ |>.le (by omega), by rw [nx_sR, nx_hN, hn], fun j => by rw [gI_sR, gI_hN, if_neg (by omega)], fun j => ?_⟩
  rw [gR_sR]
  by_cases e : j = k
  · rw [if_pos ⟨rfl, e⟩, if_pos e]
  · rw [if_neg (fun q => e q.2), if_neg e, gR_hN, if_neg (by omega)]
theorem q_marketInit (hk : kd h 115 = kc_Market) (hn : nx h = 116) (hs : sc h ≤ 2000) : ∃ h', (∀ Q, WP Gm j_Market_init 0 [some (.inr (.inl (some 115)))] [] h Q = Q (.inl none) h') ∧ Sm (fun b => b < 115) h h' ∧ Km 2073 h h' ∧ nx h' = 121 ∧ MkD h' := by
  obtain ⟨A1, S1, K1, n1, i1, r1⟩ := ar_make (k := 0) (len := 10) hn (by omega)
  generalize hh1 : sR (hN h 100 10 10) 115 0 (some 116) = h1 at A1 S1 K1 n1 i1 r1
  obtain ⟨A2, S2, K2, n2, i2, r2⟩ := ar_make (k := 1) (len := 10) n1 (by omega)
  simp only [Nat.reduceAdd] at A2 S2 K2 n2 i2 r2
  generalize hh2 : sR (hN h1 100 10 10) 115 1 (some 117) = h2 at A2 S2 K2 n2 i2 r2
  obtain ⟨A3, S3, K3, n3, i3, r3⟩ := ar_make (k := 2) (len := 1024) n2 (by omega)
  simp only [Nat.reduceAdd] at A3 S3 K3 n3 i3 r3
  generalize hh3 : sR (hN h2 100 1024 1024) 115 2 (some 118) = h3 at A3 S3 K3 n3 i3 r3
  obtain ⟨A4, S4, K4, n4, i4, r4⟩ := ar_make (k := 3) (len := 1024) n3 (by omega)
  simp only [Nat.reduceAdd] at A4 S4 K4 n4 i4 r4
  generalize hh4 : sR (hN h3 100 1024 1024) 115 3 (some 119) = h4 at A4 S4 K4 n4 i4 r4
  obtain ⟨A5, S5, K5, n5, i5, r5⟩ := ar_make (k := 4) (len := 5) n4 (by omega)
  simp only [Nat.reduceAdd] at A5 S5 K5 n5 i5 r5
  generalize hh5 : sR (hN h4 100 5 5) 115 4 (some 120) = h5 at A5 S5 K5 n5 i5 r5
  generalize hg : sI (sI (sI (sI h5 115 5 0) 115 6 0) 115 7 0) 115 8 0 = g
  have c1 := K1.2.2
  have c2 := K2.2.2
  have c3 := K3.2.2
  have c4 := K4.2.2
  have k1 : ∀ b, b < 116 → kd h1 b = kd h b := fun b hb => (K1.1 b (by omega)).1
  have k2 : ∀ b, b < 116 → kd h2 b = kd h b := fun b hb => ((K2.1 b (by omega)).1).trans (k1 b hb)
  have k3 : ∀ b, b < 116 → kd h3 b = kd h b := fun b hb => ((K3.1 b (by omega)).1).trans (k2 b hb)
  have k4 : ∀ b, b < 116 → kd h4 b = kd h b := fun b hb => ((K4.1 b (by omega)).1).trans (k3 b hb)
  have k5 : ∀ b, b < 116 → kd h5 b = kd h b := fun b hb => ((K5.1 b (by omega)).1).trans (k4 b hb)
  have Sg : Sm (fun b => b ≠ 115) h5 g := by rw [← hg]; exact ((((Sm.refl h5).sI _ _ (by simp)).sI _ _ (by simp)).sI _ _ (by simp)).sI _ _ (by simp)
  have kg : ∀ b, kd g b = kd h5 b ∧ ln g b = ln h5 b := fun b => by rw [← hg]; exact ⟨rfl, rfl⟩
  have rg : ∀ j, gR g 115 j = gR h5 115 j := fun j => by rw [← hg]; rfl
  refine ⟨g, fun Q => ?_, ?_, ?_, by rw [← hg]; exact n5, ?_, ⟨?_, ?_, ?_, ?_, ?_⟩, ⟨?_, ?_, ?_, ?_, ?_⟩, ?_, ?_, ?_⟩
  · have t10 : Int32.toNatClampNeg 10 = 10 := by decide
    have t1024 : Int32.toNatClampNeg 1024 = 1024 := by decide
    have t5 : Int32.toNatClampNeg 5 = 5 := by decide
    have p10 : (0 : Int32) ≤ 10 ∧ (10 : Int32).toNatClampNeg ≤ 1000000 := by decide
    have p1024 : (0 : Int32) ≤ 1024 ∧ (1024 : Int32).toNatClampNeg ≤ 1000000 := by decide
    have p5 : (0 : Int32) ≤ 5 ∧ (5 : Int32).toNatClampNeg ≤ 1000000 := by decide
    have o0 : okR cM sM h 1 (Int32.toNatClampNeg 10) = true := ok_small (by omega) (by omega) (by omega) (by decide)
    have o1 : okR cM sM h1 1 (Int32.toNatClampNeg 10) = true := ok_small (by omega) (by omega) (by omega) (by decide)
    have o2 : okR cM sM h2 1 (Int32.toNatClampNeg 1024) = true := ok_small (by omega) (by omega) (by omega) (by decide)
    have o3 : okR cM sM h3 1 (Int32.toNatClampNeg 1024) = true := ok_small (by omega) (by omega) (by omega) (by decide)
    have o4 : okR cM sM h4 1 (Int32.toNatClampNeg 5) = true := ok_small (by omega) (by omega) (by omega) (by decide)
    have nw : ∀ (f : Hp) c m, nx f ≥ 116 → kd f 115 = kc_Market → isK (hN f c m m) 115 kc_Market = true := fun f c m q1 q2 => isK_of (by rw [nx_hN]; omega) (by rw [kd_hN, if_neg (by omega)]; exact q2)
    have w0 := nw h 100 10 (by omega) hk
    have w1 := nw h1 100 10 (by omega) (by rw [k1 _ (by omega)]; exact hk)
    have w2 := nw h2 100 1024 (by omega) (by rw [k2 _ (by omega)]; exact hk)
    have w3 := nw h3 100 1024 (by omega) (by rw [k3 _ (by omega)]; exact hk)
    have w4 := nw h4 100 5 (by omega) (by rw [k4 _ (by omega)]; exact hk)
    have w5 : isK h5 115 kc_Market = true := isK_of (by omega) (by rw [k5 _ (by omega)]; exact hk)
    simp only [↓e_Market_init_0, ↓e_Market_init_1, ↓e_Market_init_4, ↓e_Market_init_5, ↓e_Market_init_9, ↓e_Market_init_12, ↓e_Market_init_13, ↓e_Market_init_17, ↓e_Market_init_20, ↓e_Market_init_21, ↓e_Market_init_26, ↓e_Market_init_29, ↓e_Market_init_30, ↓e_Market_init_35, ↓e_Market_init_38, ↓e_Market_init_39, ↓e_Market_init_42, ↓e_Market_init_45, ↓e_Market_init_46, ↓e_Market_init_47, ↓e_Market_init_50, ↓e_Market_init_51, ↓e_Market_init_52, ↓e_Market_init_55, ↓e_Market_init_56, ↓e_Market_init_57, ↓e_Market_init_60, ↓e_Market_init_61, ↓e_Market_init_62, ↓e_Market_init_65, not_true_eq_false, not_false_eq_true, one0, true_or, or_true, eq_self, bI_z, bI_nz, bI_o, b_ft, bI_1, bI_0, ↓kC_l, ↓kC_r, Option.toList_some, Option.toList_none, List.cons_append, List.nil_append, s1_0, s1_1i, s1_1r, s1_1w, s1_1n, s1_s, s2_0, s2_1i, s2_1r, s2_1w, s2_1n, s2_s, gI_sI, gI_sR, gI_sL, gI_sD, gR_sI, gR_sR, gR_sL, gR_sD, gL_sI, gL_sR, gL_sL, gL_sD, gD_sI, gD_sR, gD_sL, gD_sD, isK_sI, isK_sR, isK_sL, isK_sD, inL_sI, inL_sR, inL_sL, inL_sD, nx_sI, nx_sR, nx_sL, nx_sD, kd_sI, kd_sR, kd_sL, kd_sD, ln_sI, ln_sR, ln_sL, ln_sD, ↓reduceIte, c8_n, c8_1, c8_2, c8_3, c8_4, Nat.reduceAdd]
    rw [e_Market_init_7 (i := 10) (hi := p10) (hr := o0)]
    simp only [↓e_Market_init_0, ↓e_Market_init_1, ↓e_Market_init_4, ↓e_Market_init_5, ↓e_Market_init_9, ↓e_Market_init_12, ↓e_Market_init_13, ↓e_Market_init_17, ↓e_Market_init_20, ↓e_Market_init_21, ↓e_Market_init_26, ↓e_Market_init_29, ↓e_Market_init_30, ↓e_Market_init_35, ↓e_Market_init_38, ↓e_Market_init_39, ↓e_Market_init_42, ↓e_Market_init_45, ↓e_Market_init_46, ↓e_Market_init_47, ↓e_Market_init_50, ↓e_Market_init_51, ↓e_Market_init_52, ↓e_Market_init_55, ↓e_Market_init_56, ↓e_Market_init_57, ↓e_Market_init_60, ↓e_Market_init_61, ↓e_Market_init_62, ↓e_Market_init_65, not_true_eq_false, not_false_eq_true, one0, true_or, or_true, eq_self, bI_z, bI_nz, bI_o, b_ft, bI_1, bI_0, ↓kC_l, ↓kC_r, Option.toList_some, Option.toList_none, List.cons_append, List.nil_append, s1_0, s1_1i, s1_1r, s1_1w, s1_1n, s1_s, s2_0, s2_1i, s2_1r, s2_1w, s2_1n, s2_s, gI_sI, gI_sR, gI_sL, gI_sD, gR_sI, gR_sR, gR_sL, gR_sD, gL_sI, gL_sR, gL_sL, gL_sD, gD_sI, gD_sR, gD_sL, gD_sD, isK_sI, isK_sR, isK_sL, isK_sD, inL_sI, inL_sR, inL_sL, inL_sD, nx_sI, nx_sR, nx_sL, nx_sD, kd_sI, kd_sR, kd_sL, kd_sD, ln_sI, ln_sR, ln_sL, ln_sD, ↓reduceIte, c8_n, c8_1, c8_2, c8_3, c8_4, Nat.reduceAdd, t10, hn, w0, hh1]
    rw [e_Market_init_15 (i := 10) (hi := p10) (hr := o1)]
    simp only [↓e_Market_init_0, ↓e_Market_init_1, ↓e_Market_init_4, ↓e_Market_init_5, ↓e_Market_init_9, ↓e_Market_init_12, ↓e_Market_init_13, ↓e_Market_init_17, ↓e_Market_init_20, ↓e_Market_init_21, ↓e_Market_init_26, ↓e_Market_init_29, ↓e_Market_init_30, ↓e_Market_init_35, ↓e_Market_init_38, ↓e_Market_init_39, ↓e_Market_init_42, ↓e_Market_init_45, ↓e_Market_init_46, ↓e_Market_init_47, ↓e_Market_init_50, ↓e_Market_init_51, ↓e_Market_init_52, ↓e_Market_init_55, ↓e_Market_init_56, ↓e_Market_init_57, ↓e_Market_init_60, ↓e_Market_init_61, ↓e_Market_init_62, ↓e_Market_init_65, not_true_eq_false, not_false_eq_true, one0, true_or, or_true, eq_self, bI_z, bI_nz, bI_o, b_ft, bI_1, bI_0, ↓kC_l, ↓kC_r, Option.toList_some, Option.toList_none, List.cons_append, List.nil_append, s1_0, s1_1i, s1_1r, s1_1w, s1_1n, s1_s, s2_0, s2_1i, s2_1r, s2_1w, s2_1n, s2_s, gI_sI, gI_sR, gI_sL, gI_sD, gR_sI, gR_sR, gR_sL, gR_sD, gL_sI, gL_sR, gL_sL, gL_sD, gD_sI, gD_sR, gD_sL, gD_sD, isK_sI, isK_sR, isK_sL, isK_sD, inL_sI, inL_sR, inL_sL, inL_sD, nx_sI, nx_sR, nx_sL, nx_sD, kd_sI, kd_sR, kd_sL, kd_sD, ln_sI, ln_sR, ln_sL, ln_sD, ↓reduceIte, c8_n, c8_1, c8_2, c8_3, c8_4, Nat.reduceAdd, t10, n1, w1, hh2]
    rw [e_Market_init_24 (i := 1024) (hi := p1024) (hr := o2)]
    simp only [↓e_Market_init_0, ↓e_Market_init_1, ↓e_Market_init_4, ↓e_Market_init_5, ↓e_Market_init_9, ↓e_Market_init_12, ↓e_Market_init_13, ↓e_Market_init_17, ↓e_Market_init_20, ↓e_Market_init_21, ↓e_Market_init_26, ↓e_Market_init_29, ↓e_Market_init_30, ↓e_Market_init_35, ↓e_Market_init_38, ↓e_Market_init_39, ↓e_Market_init_42, ↓e_Market_init_45, ↓e_Market_init_46, ↓e_Market_init_47, ↓e_Market_init_50, ↓e_Market_init_51, ↓e_Market_init_52, ↓e_Market_init_55, ↓e_Market_init_56, ↓e_Market_init_57, ↓e_Market_init_60, ↓e_Market_init_61, ↓e_Market_init_62, ↓e_Market_init_65, not_true_eq_false, not_false_eq_true, one0, true_or, or_true, eq_self, bI_z, bI_nz, bI_o, b_ft, bI_1, bI_0, ↓kC_l, ↓kC_r, Option.toList_some, Option.toList_none, List.cons_append, List.nil_append, s1_0, s1_1i, s1_1r, s1_1w, s1_1n, s1_s, s2_0, s2_1i, s2_1r, s2_1w, s2_1n, s2_s, gI_sI, gI_sR, gI_sL, gI_sD, gR_sI, gR_sR, gR_sL, gR_sD, gL_sI, gL_sR, gL_sL, gL_sD, gD_sI, gD_sR, gD_sL, gD_sD, isK_sI, isK_sR, isK_sL, isK_sD, inL_sI, inL_sR, inL_sL, inL_sD, nx_sI, nx_sR, nx_sL, nx_sD, kd_sI, kd_sR, kd_sL, kd_sD, ln_sI, ln_sR, ln_sL, ln_sD, ↓reduceIte, c8_n, c8_1, c8_2, c8_3, c8_4, Nat.reduceAdd, t1024, n2, w2, hh3]
    rw [e_Market_init_33 (i := 1024) (hi := p1024) (hr := o3)]
    simp only [↓e_Market_init_0, ↓e_Market_init_1, ↓e_Market_init_4, ↓e_Market_init_5, ↓e_Market_init_9, ↓e_Market_init_12, ↓e_Market_init_13, ↓e_Market_init_17, ↓e_Market_init_20, ↓e_Market_init_21, ↓e_Market_init_26, ↓e_Market_init_29, ↓e_Market_init_30, ↓e_Market_init_35, ↓e_Market_init_38, ↓e_Market_init_39, ↓e_Market_init_42, ↓e_Market_init_45, ↓e_Market_init_46, ↓e_Market_init_47, ↓e_Market_init_50, ↓e_Market_init_51, ↓e_Market_init_52, ↓e_Market_init_55, ↓e_Market_init_56, ↓e_Market_init_57, ↓e_Market_init_60, ↓e_Market_init_61, ↓e_Market_init_62, ↓e_Market_init_65, not_true_eq_false, not_false_eq_true, one0, true_or, or_true, eq_self, bI_z, bI_nz, bI_o, b_ft, bI_1, bI_0, ↓kC_l, ↓kC_r, Option.toList_some, Option.toList_none, List.cons_append, List.nil_append, s1_0, s1_1i, s1_1r, s1_1w, s1_1n, s1_s, s2_0, s2_1i, s2_1r, s2_1w, s2_1n, s2_s, gI_sI, gI_sR, gI_sL, gI_sD, gR_sI, gR_sR, gR_sL, gR_sD, gL_sI, gL_sR, gL_sL, gL_sD, gD_sI, gD_sR, gD_sL, gD_sD, isK_sI, isK_sR, isK_sL, isK_sD, inL_sI, inL_sR, inL_sL, inL_sD, nx_sI, nx_sR, nx_sL, nx_sD, kd_sI, kd_sR, kd_sL, kd_sD, ln_sI, ln_sR, ln_sL, ln_sD, ↓reduceIte, c8_n, c8_1, c8_2, c8_3, c8_4, Nat.reduceAdd, t1024, n3, w3, hh4]
    rw [e_Market_init_40 (i := 5) (hi := p5) (hr := o4)]
    simp only [↓e_Market_init_0, ↓e_Market_init_1, ↓e_Market_init_4, ↓e_Market_init_5, ↓e_Market_init_9, ↓e_Market_init_12, ↓e_Market_init_13, ↓e_Market_init_17, ↓e_Market_init_20, ↓e_Market_init_21, ↓e_Market_init_26, ↓e_Market_init_29, ↓e_Market_init_30, ↓e_Market_init_35, ↓e_Market_init_38, ↓e_Market_init_39, ↓e_Market_init_42, ↓e_Market_init_45, ↓e_Market_init_46, ↓e_Market_init_47, ↓e_Market_init_50, ↓e_Market_init_51, ↓e_Market_init_52, ↓e_Market_init_55, ↓e_Market_init_56, ↓e_Market_init_57, ↓e_Market_init_60, ↓e_Market_init_61, ↓e_Market_init_62, ↓e_Market_init_65, not_true_eq_false, not_false_eq_true, one0, true_or, or_true, eq_self, bI_z, bI_nz, bI_o, b_ft, bI_1, bI_0, ↓kC_l, ↓kC_r, Option.toList_some, Option.toList_none, List.cons_append, List.nil_append, s1_0, s1_1i, s1_1r, s1_1w, s1_1n, s1_s, s2_0, s2_1i, s2_1r, s2_1w, s2_1n, s2_s, gI_sI, gI_sR, gI_sL, gI_sD, gR_sI, gR_sR, gR_sL, gR_sD, gL_sI, gL_sR, gL_sL, gL_sD, gD_sI, gD_sR, gD_sL, gD_sD, isK_sI, isK_sR, isK_sL, isK_sD, inL_sI, inL_sR, inL_sL, inL_sD, nx_sI, nx_sR, nx_sL, nx_sD, kd_sI, kd_sR, kd_sL, kd_sD, ln_sI, ln_sR, ln_sL, ln_sD, ↓reduceIte, c8_n, c8_1, c8_2, c8_3, c8_4, Nat.reduceAdd, t5, n4, w4, hh5, w5, hg]
  · exact (((((S1.mono fun b q => by omega).trans (S2.mono fun b q => by omega)).trans (S3.mono fun b q => by omega)).trans (S4.mono fun b q => by omega)).trans (S5.mono fun b q => by omega)).trans (Sg.mono fun b q => by omega)
  · rw [← hg]
    exact (((((((((K1.trans K2).trans K3).trans K4).trans K5).sI _ _).sI _ _).sI _ _).sI _ _)).le (by omega)
  · rw [(kg 115).1, k5 _ (by omega)]; exact hk
  · rw [rg, r5, r4, r3, r2, r1]; rfl
  · rw [rg, r5, r4, r3, r2]; rfl
  · rw [rg, r5, r4, r3]; rfl
  · rw [rg, r5, r4]; rfl
  · rw [rg, r5]; rfl
  · refine AR.keep (h := h1) A1 ?_ ?_
    · exact ((((S2.mono fun b q => by omega).trans (S3.mono fun b q => by omega)).trans (S4.mono fun b q => by omega)).trans (S5.mono fun b q => by omega)).trans (Sg.mono fun b q => by omega)
    · rw [(kg 116).1, (kg 116).2, (K5.1 116 (by omega)).1, (K5.1 116 (by omega)).2, (K4.1 116 (by omega)).1, (K4.1 116 (by omega)).2, (K3.1 116 (by omega)).1, (K3.1 116 (by omega)).2]
      exact K2.1 116 (by omega)
  · refine AR.keep (h := h2) A2 ?_ ?_
    · exact (((S3.mono fun b q => by omega).trans (S4.mono fun b q => by omega)).trans (S5.mono fun b q => by omega)).trans (Sg.mono fun b q => by omega)
    · rw [(kg 117).1, (kg 117).2, (K5.1 117 (by omega)).1, (K5.1 117 (by omega)).2, (K4.1 117 (by omega)).1, (K4.1 117 (by omega)).2]
      exact K3.1 117 (by omega)
  · refine AR.keep (h := h3) A3 ?_ ?_
    · exact ((S4.mono fun b q => by omega).trans (S5.mono fun b q => by omega)).trans (Sg.mono fun b q => by omega)
    · rw [(kg 118).1, (kg 118).2, (K5.1 118 (by omega)).1, (K5.1 118 (by omega)).2]
      exact K4.1 118 (by omega)
  · refine AR.keep (h := h4) A4 ?_ ?_
    · exact (S5.mono fun b q => by omega).trans (Sg.mono fun b q => by omega)
    · rw [(kg 119).1, (kg 119).2]
      exact K5.1 119 (by omega)
  · exact AR.keep (h := h5) A5 (Sg.mono fun b q => by omega) (kg 120)
  · rw [← hg]; simp [gI_sI]
  · rw [← hg]; simp [gI_sI]
  · rw [← hg]; simp [gI_sI]
end IN5
