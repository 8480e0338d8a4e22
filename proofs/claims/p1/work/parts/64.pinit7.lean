/-! pinit7: the country's constructor -/
section IN7
variable {h : Hp}
theorem TrD.keep {h' : Hp} (q : TrD h) (x : Sm (fun b => b = 114) h h') (ek : kd h' 114 = kd h 114) : TrD h' := by
  obtain ⟨q1, q2, q3, q4, q5, q6⟩ := q
  exact ⟨by rw [ek]; exact q1, by rw [(x 114 2 rfl).1]; exact q2, by rw [(x 114 3 rfl).1]; exact q3, by rw [(x 114 4 rfl).1]; exact q4, by rw [(x 114 0 rfl).2.1]; exact q5, by rw [(x 114 1 rfl).2.1]; exact q6⟩
theorem MkD.keep {h' : Hp} (q : MkD h) (x : Sm (fun b => 115 ≤ b ∧ b < 121) h h') (ek : ∀ b, 115 ≤ b → b < 121 → kd h' b = kd h b ∧ ln h' b = ln h b) : MkD h' := by
  obtain ⟨m0, ⟨b0, b1, b2, b3, b4⟩, ⟨a1, a2, a3, a4, a5⟩, x5, x6, x7⟩ := q
  exact ⟨by rw [(ek 115 (by omega) (by omega)).1]; exact m0, ⟨by rw [(x 115 0 (by omega)).2.1]; exact b0, by rw [(x 115 1 (by omega)).2.1]; exact b1, by rw [(x 115 2 (by omega)).2.1]; exact b2, by rw [(x 115 3 (by omega)).2.1]; exact b3, by rw [(x 115 4 (by omega)).2.1]; exact b4⟩,
    ⟨a1.keep (x.mono fun b q => by omega) (ek _ (by omega) (by omega)), a2.keep (x.mono fun b q => by omega) (ek _ (by omega) (by omega)), a3.keep (x.mono fun b q => by omega) (ek _ (by omega) (by omega)), a4.keep (x.mono fun b q => by omega) (ek _ (by omega) (by omega)), a5.keep (x.mono fun b q => by omega) (ek _ (by omega) (by omega))⟩,
    by rw [(x 115 5 (by omega)).1]; exact x5, by rw [(x 115 6 (by omega)).1]; exact x6, by rw [(x 115 7 (by omega)).1]; exact x7⟩
theorem q_countryInit (hk : kd h 1 = kc_S) (hn : nx h = 2) (hs : sc h ≤ 100) : ∃ h', (∀ Q, WP Gm j_S_init 0 [some (.inr (.inl (some 1)))] [] h Q = Q (.inl none) h') ∧ Sm (fun b => b = 0) h h' ∧ Km 4000 h h' ∧ nx h' = 121 ∧ CI 0 h' ∧ FN 0 h' ∧ gI h' 114 2 = ii 0 := by
  generalize hh1 : hN h kc_Land 0 3 = h1
  have n1 : nx h1 = 3 := by rw [← hh1, nx_hN, hn]
  have S1 : Sm (fun b => b < 2) h h1 := by rw [← hh1]; exact (Sm.refl h).hN _ _ _ (by omega)
  have K1 : Km 3 h h1 := by rw [← hh1]; exact (Km.refl h).hN _ _ _
  have c1 := K1.2.2
  have kd1 : kd h1 2 = kc_Land := by rw [← hh1, kd_hN, if_pos hn.symm]
  obtain ⟨h2, e2, S2, K2, n2, L2⟩ := q_landInit kd1 n1 (by omega)
  have c2 := K2.2.2
  generalize hh3 : sR h2 1 0 (some 2) = h3
  have n3 : nx h3 = 77 := by rw [← hh3]; exact n2
  have kd3 : ∀ b, kd h3 b = kd h2 b ∧ ln h3 b = ln h2 b := fun b => by rw [← hh3]; exact ⟨rfl, rfl⟩
  have S3 : Sm (fun b => b ≠ 1) h2 h3 := by rw [← hh3]; exact (Sm.refl h2).sR _ _ (by simp)
  have c3 : sc h3 = sc h2 := by rw [← hh3]; rfl
  generalize hh4 : hN h3 kc_Routes 0 6 = h4
  have n4 : nx h4 = 78 := by rw [← hh4, nx_hN, n3]
  have S4 : Sm (fun b => b < 77) h3 h4 := by rw [← hh4]; exact (Sm.refl h3).hN _ _ _ (by omega)
  have K4 : Km 6 h3 h4 := by rw [← hh4]; exact ((Km.refl h3).hN _ _ _).le (by omega)
  have c4 := K4.2.2
  have kd4 : kd h4 77 = kc_Routes := by rw [← hh4, kd_hN, if_pos n3.symm]
  obtain ⟨h5, e5, S5, K5, n5, R5⟩ := q_routesInit kd4 n4 (by omega)
  have c5 := K5.2.2
  generalize hh6 : sR h5 1 1 (some 77) = h6
  have n6 : nx h6 = 114 := by rw [← hh6]; exact n5
  have kd6 : ∀ b, kd h6 b = kd h5 b ∧ ln h6 b = ln h5 b := fun b => by rw [← hh6]; exact ⟨rfl, rfl⟩
  have S6 : Sm (fun b => b ≠ 1) h5 h6 := by rw [← hh6]; exact (Sm.refl h5).sR _ _ (by simp)
  have c6 : sc h6 = sc h5 := by rw [← hh6]; rfl
  generalize hh7 : hN h6 kc_Traffic 0 7 = h7
  have n7 : nx h7 = 115 := by rw [← hh7, nx_hN, n6]
  have S7 : Sm (fun b => b < 114) h6 h7 := by rw [← hh7]; exact (Sm.refl h6).hN _ _ _ (by omega)
  have K7 : Km 7 h6 h7 := by rw [← hh7]; exact ((Km.refl h6).hN _ _ _).le (by omega)
  have c7 := K7.2.2
  have kd7 : kd h7 114 = kc_Traffic := by rw [← hh7, kd_hN, if_pos n6.symm]
  obtain ⟨h8, e8, F8, t1, t2, t3, t4, t5⟩ := q_trafficInit (h := h7) (isK_of (by omega) kd7)
  have n8' : nx h8 = 115 := by rw [F8.2.2.2.2.2.1]; exact n7
  have kd8 : ∀ b, kd h8 b = kd h7 b ∧ ln h8 b = ln h7 b := fun b => ⟨F8.2.2.2.1 b, F8.2.2.2.2.1 b⟩
  have S8 : Sm (fun b => b ≠ 114) h7 h8 := (Sm.refl h7).fr F8 (fun b k q w => q w) (fun b k q w => q w) (fun _ _ _ w => w)
  have c8' : sc h8 = sc h7 := F8.2.2.2.2.2.2
  have T8 : TrD h8 := ⟨by rw [(kd8 114).1]; exact kd7, t1, t2, t3, t4, t5⟩
  generalize hh9 : sR h8 1 2 (some 114) = h9
  have n9 : nx h9 = 115 := by rw [← hh9]; exact n8'
  have kd9 : ∀ b, kd h9 b = kd h8 b ∧ ln h9 b = ln h8 b := fun b => by rw [← hh9]; exact ⟨rfl, rfl⟩
  have S9 : Sm (fun b => b ≠ 1) h8 h9 := by rw [← hh9]; exact (Sm.refl h8).sR _ _ (by simp)
  have c9 : sc h9 = sc h8 := by rw [← hh9]; rfl
  generalize hh10 : hN h9 kc_Market 0 9 = h10
  have n10 : nx h10 = 116 := by rw [← hh10, nx_hN, n9]
  have S10 : Sm (fun b => b < 115) h9 h10 := by rw [← hh10]; exact (Sm.refl h9).hN _ _ _ (by omega)
  have K10 : Km 9 h9 h10 := by rw [← hh10]; exact ((Km.refl h9).hN _ _ _).le (by omega)
  have c10 := K10.2.2
  have kd10 : kd h10 115 = kc_Market := by rw [← hh10, kd_hN, if_pos n9.symm]
  obtain ⟨h11, e11, S11, K11, n11, M11⟩ := q_marketInit kd10 n10 (by omega)
  have c11 := K11.2.2
  generalize hh12 : sI (sR h11 1 3 (some 115)) 1 4 0 = h12
  have n12 : nx h12 = 121 := by rw [← hh12]; exact n11
  have kd12 : ∀ b, kd h12 b = kd h11 b ∧ ln h12 b = ln h11 b := fun b => by rw [← hh12]; exact ⟨rfl, rfl⟩
  have S12 : Sm (fun b => b ≠ 1) h11 h12 := by rw [← hh12]; exact ((Sm.refl h11).sR _ _ (by simp)).sI _ _ (by simp)
  have c12 : sc h12 = sc h11 := by rw [← hh12]; rfl
  have k23 : ∀ b, b < 77 → kd h4 b = kd h2 b ∧ ln h4 b = ln h2 b := fun b hb => by rw [(K4.1 b (by omega)).1, (K4.1 b (by omega)).2]; exact kd3 b
  have k25 : ∀ b, b < 77 → kd h5 b = kd h2 b ∧ ln h5 b = ln h2 b := fun b hb => by rw [(K5.1 b (by omega)).1, (K5.1 b (by omega)).2]; exact k23 b hb
  have k57 : ∀ b, b < 114 → kd h8 b = kd h5 b ∧ ln h8 b = ln h5 b := fun b hb => by rw [(kd8 b).1, (kd8 b).2, (K7.1 b (by omega)).1, (K7.1 b (by omega)).2]; exact kd6 b
  have k8e : ∀ b, b < 115 → kd h12 b = kd h8 b ∧ ln h12 b = ln h8 b := fun b hb => by rw [(kd12 b).1, (kd12 b).2, (K11.1 b (by omega)).1, (K11.1 b (by omega)).2, (K10.1 b (by omega)).1, (K10.1 b (by omega)).2]; exact kd9 b
  have k01 : kd h2 1 = kc_S := by rw [(K2.1 1 (by omega)).1, (K1.1 1 (by omega)).1]; exact hk
  have y25 : Sm (fun b => b < 77 ∧ b ≠ 1) h2 h5 := ((S3.mono fun b q => q.2).trans (S4.mono fun b q => q.1)).trans (S5.mono fun b q => q.1)
  have y58 : Sm (fun b => b < 114 ∧ b ≠ 1) h5 h8 := ((S6.mono fun b q => q.2).trans (S7.mono fun b q => q.1)).trans (S8.mono fun b q => by omega)
  have y8e : Sm (fun b => b < 115 ∧ b ≠ 1) h8 h12 := (((S9.mono fun b q => q.2).trans (S10.mono fun b q => q.1)).trans (S11.mono fun b q => q.1)).trans (S12.mono fun b q => q.2)
  have L : LD 8 h12 := L2.keep (((y25.mono fun b q => by omega).trans (y58.mono fun b q => by omega)).trans (y8e.mono fun b q => by omega)) (fun b p q => by rw [(k8e b (by omega)).1, (k8e b (by omega)).2, (k57 b (by omega)).1, (k57 b (by omega)).2]; exact k25 b q)
  have R : RD h12 := R5.keep ((y58.mono fun b q => by omega).trans (y8e.mono fun b q => by omega)) (fun b p q => by rw [(k8e b (by omega)).1, (k8e b (by omega)).2]; exact k57 b q)
  have T : TrD h12 := T8.keep (y8e.mono fun b q => by omega) (k8e 114 (by omega)).1
  have M : MkD h12 := M11.keep (S12.mono fun b q => by omega) (fun b p q => kd12 b)
  have r3 : gR h3 1 0 = some 2 := by rw [← hh3, gR_sR, if_pos ⟨rfl, rfl⟩]
  have r4 : gR h4 1 0 = some 2 := by rw [(S4 1 0 (by omega)).2.1]; exact r3
  have r6 : gR h6 1 0 = some 2 := by rw [← hh6, gR_sR, if_neg (by omega), (S5 1 0 (by omega)).2.1]; exact r4
  have r61 : gR h6 1 1 = some 77 := by rw [← hh6, gR_sR, if_pos ⟨rfl, rfl⟩]
  have e68 : ∀ k, gR h8 1 k = gR h6 1 k := fun k => by rw [(S8 1 k (by omega)).2.1, (S7 1 k (by omega)).2.1]
  have e9e : ∀ k, k ≠ 3 → gR h12 1 k = gR h9 1 k := fun k hk3 => by rw [← hh12, gR_sI, gR_sR, if_neg (by omega), (S11 1 k (by omega)).2.1, (S10 1 k (by omega)).2.1]
  have r9 : ∀ k, k ≠ 2 → gR h9 1 k = gR h6 1 k := fun k hk2 => by rw [← hh9, gR_sR, if_neg (by omega), e68]
  have C : CoD h12 := by
    refine ⟨?_, ?_, ?_, ?_, ?_⟩
    · rw [(k8e 1 (by omega)).1, (k57 1 (by omega)).1, (k25 1 (by omega)).1]; exact k01
    · rw [e9e 0 (by omega), r9 0 (by omega)]; exact r6
    · rw [e9e 1 (by omega), r9 1 (by omega)]; exact r61
    · rw [e9e 2 (by omega), ← hh9, gR_sR, if_pos ⟨rfl, rfl⟩]
    · rw [← hh12, gR_sI, gR_sR, if_pos ⟨rfl, rfl⟩]
  obtain ⟨z1, z2, z3⟩ := start_of (by omega) C L R T M
  refine ⟨h12, fun Q => ?_, ?_, ?_, n12, z1, z2, z3⟩
  · have o1 : okR cM sM h 1 3 = true := ok_small (by omega) (by omega) (by omega) (by omega)
    have o3 : okR cM sM h3 1 6 = true := ok_small (by omega) (by omega) (by omega) (by omega)
    have o6 : okR cM sM h6 1 7 = true := ok_small (by omega) (by omega) (by omega) (by omega)
    have o9 : okR cM sM h9 1 9 = true := ok_small (by omega) (by omega) (by omega) (by omega)
    have g1 : isK h1 2 kc_Land = true := isK_of (by omega) kd1
    have g2 : isK h2 1 kc_S = true := isK_of (by omega) k01
    have g4 : isK h4 77 kc_Routes = true := isK_of (by omega) kd4
    have g4' : isK h4 1 kc_S = true := isK_of (by omega) (by rw [(k23 1 (by omega)).1]; exact k01)
    have g5 : isK h5 1 kc_S = true := isK_of (by omega) (by rw [(k25 1 (by omega)).1]; exact k01)
    have g7 : isK h7 114 kc_Traffic = true := isK_of (by omega) kd7
    have g7' : isK h7 1 kc_S = true := isK_of (by omega) (by rw [(K7.1 1 (by omega)).1, (kd6 1).1, (k25 1 (by omega)).1]; exact k01)
    have r7 : gR h7 1 0 = some 2 ∧ gR h7 1 1 = some 77 := ⟨by rw [(S7 1 0 (by omega)).2.1]; exact r6, by rw [(S7 1 1 (by omega)).2.1]; exact r61⟩
    have g8 : isK h8 1 kc_S = true := isK_of (by omega) (by rw [(k57 1 (by omega)).1, (k25 1 (by omega)).1]; exact k01)
    have g10 : isK h10 115 kc_Market = true := isK_of (by omega) kd10
    have g11 : isK h11 1 kc_S = true := isK_of (by omega) (by rw [(K11.1 1 (by omega)).1, (K10.1 1 (by omega)).1, (kd9 1).1, (k57 1 (by omega)).1, (k25 1 (by omega)).1]; exact k01)
    simp only [↓e_S_init_0, ↓e_S_init_1, ↓e_S_init_4, ↓e_S_init_5, ↓e_S_init_8, ↓e_S_init_9, ↓e_S_init_12, ↓e_S_init_15, ↓e_S_init_16, ↓e_S_init_19, ↓e_S_init_20, ↓e_S_init_21, ↓e_S_init_24, ↓e_S_init_27, ↓e_S_init_30, ↓e_S_init_31, ↓e_S_init_34, ↓e_S_init_35, ↓e_S_init_36, ↓e_S_init_39, ↓e_S_init_40, ↓e_S_init_43, ↓e_S_init_46, ↓e_S_init_49, ↓e_S_init_50, ↓e_S_init_53, ↓e_S_init_54, ↓e_S_init_57, ↓e_S_init_60, ↓e_S_init_61, ↓e_S_init_62, ↓e_S_init_65, not_true_eq_false, not_false_eq_true, one0, true_or, or_true, eq_self, bI_z, bI_nz, bI_o, b_ft, bI_1, bI_0, ↓kC_l, ↓kC_r, Option.toList_some, Option.toList_none, List.cons_append, List.nil_append, s1_0, s1_1i, s1_1r, s1_1w, s1_1n, s1_s, s2_0, s2_1i, s2_1r, s2_1w, s2_1n, s2_s, gI_sI, gI_sR, gI_sL, gI_sD, gR_sI, gR_sR, gR_sL, gR_sD, gL_sI, gL_sR, gL_sL, gL_sD, gD_sI, gD_sR, gD_sL, gD_sD, isK_sI, isK_sR, isK_sL, isK_sD, inL_sI, inL_sR, inL_sL, inL_sD, nx_sI, nx_sR, nx_sL, nx_sD, kd_sI, kd_sR, kd_sL, kd_sD, ln_sI, ln_sR, ln_sL, ln_sD, ↓reduceIte, c8_n, c8_1, c8_2, c8_3, c8_4, Nat.reduceAdd, o1, hn, hh1, g1, e2, g2, hh3, o3, n3, hh4, g4, g4', r4, e5, g5, hh6, o6, n6, hh7, g7, g7', r7.1, r7.2, e8, g8, hh9, o9, n9, hh10, g10, e11, g11, hh12]
  · exact ((((S1.mono fun b q => by omega).trans (S2.mono fun b q => by omega)).trans (y25.mono fun b q => by omega)).trans (y58.mono fun b q => by omega)).trans (y8e.mono fun b q => by omega)
  · refine ⟨fun b hb => ?_, by omega, by omega⟩
    rw [(k8e b (by omega)).1, (k8e b (by omega)).2, (k57 b (by omega)).1, (k57 b (by omega)).2, (k25 b (by omega)).1, (k25 b (by omega)).2, (K2.1 b (by omega)).1, (K2.1 b (by omega)).2]
    exact K1.1 b hb
end IN7
