/-! xas12: ofNode in values -/
section RQ2
variable {τ τ' : Nat → Nat} {n A c B B1 m T : Nat} {K : Int32} {p b9 x9 p9 : Nat → Nat} {h h' : Hp} {α : As}
theorem RA.su (V : RA τ n p c B1 h α) {i : Nat} (hi : i < n) : msu h p i n = sus9 n α i := by
  have e12 : ∀ k, k < n → gI h (p k) 13 = α.1 k 12 := fun k hk => V.f hk 12 (by omega) (by omega)
  have e13 : ∀ k, k < n → gI h (p k) 14 = α.1 k 13 := fun k hk => V.f hk 13 (by omega) (by omega)
  have es : upto (msS h p i) n 0 (0, 0) = upto (suS9 α i) n 0 (0, 0) := upto_congr n 0 _ fun k a _ hk => by
    unfold msS suS9
    rw [e12 k (by omega), e13 k (by omega)]
  unfold msu sus9
  rw [es, e12 i hi, e13 i hi]
theorem qx_mnodeTold (R : RM τ n p A c B K h) (V : RA τ n p c B1 h α) {i w : Nat} (hi : i < n) (hw : w ≤ 15) (hn1 : nx h + 1 ≤ 580300) (hs1 : sc h + 16 ≤ 5700000) :
    ∃ g, (∀ Q, WP Gm j_Mdl_nodeTold 0 [some (.inr (.inl (some 121))), some (.inl (ii i)), some (.inl (ii w)), none, none] [] h Q = Q (.inl (some (.inl (tld9 n α i w)))) g) ∧ Nw τ h 16 g := by
  have F := R.F
  have hn := R.n8
  obtain ⟨y0, y1, y2, y3, y4, y5, y6, y7, y8, y9, y10, y11, y12, y13, y14, y15, y16⟩ := nums
  have l16 : ((0 : Int32) ≤ 16) = True := eq_true (by decide)
  have hr : okR cM sM h 1 16 = true := ok_big (by omega) (by omega)
  have nz : (nx h = 0) = False := eq_false (by have := F.1; omega)
  generalize hg0 : hN h 100 16 16 = g0
  have N0 : Nw τ h 16 g0 := by rw [← hg0]; exact Nw.new F 16
  have hpn : (p i = nx h) = False := eq_false (Nat.ne_of_lt (isK_lt (R.nk hi)))
  have I : ∀ {g : Hp}, Nw τ h 16 g → ∀ k, k < 16 → inL g (nx h) (ii k) = true := fun N k hk => N.in hk (by omega)
  have av : ∀ {g : Hp}, Nw τ h 16 g → ∀ f, f ≤ 14 → f ≠ 4 → gI g (p i) (rf9 f) = α.1 i f := fun N f h1 h2 => (V.jk R N.2.2.2.2).f hi f h1 h2
  have sA : ∃ g, (∀ Q, WP Gm j_Mdl_nodeTold 0 [some (.inr (.inl (some 121))), some (.inl (ii i)), some (.inl (ii w)), none, none] [] h Q = WP Gm j_Mdl_nodeTold 47 [some (.inr (.inl (some 121))), some (.inl (ii i)), some (.inl (ii w)), some (.inr (.inl (some (p i)))), none] [.inr (.inl (some (nx h)))] g Q) ∧ Nw τ h 16 g ∧ ∀ k, k < 4 → gI g (nx h) k = tld9 n α i k := by
    have j0 := I N0 0 (by omega)
    have j1 := I N0 1 (by omega)
    have j2 := I N0 2 (by omega)
    have j3 := I N0 3 (by omega)
    have j0' : inL g0 (nx h) 0 = true := j0
    have j1' : inL g0 (nx h) 1 = true := j1
    have j2' : inL g0 (nx h) 2 = true := j2
    have j3' : inL g0 (nx h) 3 = true := j3
    have k0 := N0.2.2.1
    have kp : isK g0 (p i) kc_MNode = true := (R.sw N0.w).nk hi
    generalize hg : sI (sI (sI (sI g0 (nx h) 0 (gI g0 (p i) 0)) (nx h) 1 (gI g0 (p i) 1)) (nx h) 2 (gI g0 (p i) 2)) (nx h) 3 (if gI g0 (p i) 3 = 0 then 0 else 1) = g
    have N : Nw τ h 16 g := by rw [← hg]; exact (((N0.sI F).sI F).sI F).sI F
    have a0 : gI g0 (p i) 0 = α.1 i 0 := av N0 0 (by omega) (by omega)
    have a1 : gI g0 (p i) 1 = α.1 i 1 := av N0 1 (by omega) (by omega)
    have a2 : gI g0 (p i) 2 = α.1 i 2 := av N0 2 (by omega) (by omega)
    have a3 : gI g0 (p i) 3 = α.1 i 3 := av N0 3 (by omega) (by omega)
    refine ⟨g, fun Q => ?_, N, fun k hk => ?_⟩
    rotate_left
    · have : k = 0 ∨ k = 1 ∨ k = 2 ∨ k = 3 := by omega
      rw [← hg]
      rcases this with rfl | rfl | rfl | rfl <;> simp only [gI_sI, Nat.reduceEqDiff, and_false, and_self, ↓reduceIte, a0, a1, a2, a3, tld9]
    simp only [↓e_Mdl_nodeTold_0, ↓e_Mdl_nodeTold_1, ↓e_Mdl_nodeTold_4, ↓e_Mdl_nodeTold_5, ↓e_Mdl_nodeTold_8, ↓e_Mdl_nodeTold_11, ↓e_Mdl_nodeTold_12, ↓e_Mdl_nodeTold_14, ↓e_Mdl_nodeTold_16, ↓e_Mdl_nodeTold_17, ↓e_Mdl_nodeTold_18, ↓e_Mdl_nodeTold_19, ↓e_Mdl_nodeTold_22, ↓e_Mdl_nodeTold_23, ↓e_Mdl_nodeTold_24, ↓e_Mdl_nodeTold_25, ↓e_Mdl_nodeTold_26, ↓e_Mdl_nodeTold_29, ↓e_Mdl_nodeTold_30, ↓e_Mdl_nodeTold_31, ↓e_Mdl_nodeTold_32, ↓e_Mdl_nodeTold_33, ↓e_Mdl_nodeTold_36, ↓e_Mdl_nodeTold_37, ↓e_Mdl_nodeTold_38, ↓e_Mdl_nodeTold_39, ↓e_Mdl_nodeTold_40, ↓e_Mdl_nodeTold_43, ↓e_Mdl_nodeTold_46, ↓e_Mdl_nodeTold_48, ↓e_Mdl_nodeTold_49, ↓e_Mdl_nodeTold_50, ↓e_Mdl_nodeTold_53, ↓e_Mdl_nodeTold_56, ↓e_Mdl_nodeTold_58, ↓e_Mdl_nodeTold_59, ↓e_Mdl_nodeTold_60, ↓e_Mdl_nodeTold_63, ↓e_Mdl_nodeTold_64, ↓e_Mdl_nodeTold_65, ↓e_Mdl_nodeTold_67, ↓e_Mdl_nodeTold_68, ↓e_Mdl_nodeTold_71, ↓e_Mdl_nodeTold_72, ↓e_Mdl_nodeTold_73, ↓e_Mdl_nodeTold_75, ↓e_Mdl_nodeTold_76, ↓e_Mdl_nodeTold_79, ↓e_Mdl_nodeTold_80, ↓e_Mdl_nodeTold_81, ↓e_Mdl_nodeTold_83, ↓e_Mdl_nodeTold_84, ↓e_Mdl_nodeTold_87, ↓e_Mdl_nodeTold_88, ↓e_Mdl_nodeTold_89, ↓e_Mdl_nodeTold_91, ↓e_Mdl_nodeTold_92, ↓e_Mdl_nodeTold_95, ↓e_Mdl_nodeTold_96, ↓e_Mdl_nodeTold_97, ↓e_Mdl_nodeTold_99, ↓e_Mdl_nodeTold_100, ↓e_Mdl_nodeTold_103, ↓e_Mdl_nodeTold_104, ↓e_Mdl_nodeTold_105, ↓e_Mdl_nodeTold_107, ↓e_Mdl_nodeTold_108, ↓e_Mdl_nodeTold_111, ↓e_Mdl_nodeTold_112, ↓e_Mdl_nodeTold_113, ↓e_Mdl_nodeTold_115, ↓e_Mdl_nodeTold_116, ↓e_Mdl_nodeTold_119, ↓e_Mdl_nodeTold_121, ↓e_Mdl_nodeTold_123, ↓e_Mdl_nodeTold_124, ↓e_Mdl_nodeTold_125, ↓e_Mdl_nodeTold_128, ↓e_Mdl_nodeTold_131, ↓e_Mdl_nodeTold_133, ↓e_Mdl_nodeTold_135, ↓e_Mdl_nodeTold_136, ↓e_Mdl_nodeTold_137, ↓e_Mdl_nodeTold_140, ↓e_Mdl_nodeTold_141, ↓e_Mdl_nodeTold_142, ↓e_Mdl_nodeTold_144, ↓e_Mdl_nodeTold_145, ↓e_Mdl_nodeTold_148, ↓e_Mdl_nodeTold_151, ↓e_Mdl_nodeTold_153, ↓e_Mdl_nodeTold_154, ↓e_Mdl_nodeTold_155, not_true_eq_false, not_false_eq_true, one0, true_or, or_true, eq_self, bI_z, bI_nz, bI_o, b_ft, bI_1, bI_0, ↓kC_l, ↓kC_r, Option.toList_some, Option.toList_none, List.cons_append, List.nil_append, s1_0, s1_1i, s1_1r, s1_1w, s1_1n, s1_s, s2_0, s2_1i, s2_1r, s2_1w, s2_1n, s2_s, gI_sI, gI_sR, gI_sL, gI_sD, gR_sI, gR_sR, gR_sL, gR_sD, gL_sI, gL_sR, gL_sL, gL_sD, gD_sI, gD_sR, gD_sL, gD_sD, isK_sI, isK_sR, isK_sL, isK_sD, inL_sI, inL_sR, inL_sL, inL_sD, nx_sI, nx_sR, nx_sL, nx_sD, kd_sI, kd_sR, kd_sL, kd_sD, ln_sI, ln_sR, ln_sL, ln_sD, ↓reduceIte, c8_n, c8_1, c8_2, c8_3, c8_4, Nat.reduceAdd, R.k, R.r9, R.k122, q_ng _ R hi, R.nk hi, R.nz hi, y16, l16, Nat.reduceLeDiff, and_self, hr, hg0, k0, kp, j0', j1', j2', j3', nz, y0, y1, y2, y3, q_oneI, hpn, false_and, hg]
  obtain ⟨g1, e1, N1, t1⟩ := sA
  have sB : ∃ g, (∀ Q, WP Gm j_Mdl_nodeTold 47 [some (.inr (.inl (some 121))), some (.inl (ii i)), some (.inl (ii w)), some (.inr (.inl (some (p i)))), none] [.inr (.inl (some (nx h)))] g1 Q = WP Gm j_Mdl_nodeTold 57 [some (.inr (.inl (some 121))), some (.inl (ii i)), some (.inl (ii w)), some (.inr (.inl (some (p i)))), none] [.inr (.inl (some (nx h)))] g Q) ∧ Nw τ h 16 g ∧ ∀ k, k < 5 → gI g (nx h) k = tld9 n α i k := by
    have Rg := R.sw N1.w
    obtain ⟨M1, -⟩ := Rg.nd hi
    obtain ⟨c0, c1, L⟩ := (V.jk R N1.2.2.2.2).q hi
    have j4 : inL g1 (nx h) 4 = true := I N1 4 (by omega)
    refine ⟨sI g1 (nx h) 4 (ii (α.2.1 i)), fun Q => ?_, N1.sI F, fun k hk => ?_⟩
    rotate_left
    · rw [gI_sI]
      by_cases e : k = 4
      · rw [if_pos ⟨rfl, e⟩, e]; rfl
      · rw [if_neg (fun w => e w.2)]; exact t1 k (by omega)
    simp only [↓e_Mdl_nodeTold_0, ↓e_Mdl_nodeTold_1, ↓e_Mdl_nodeTold_4, ↓e_Mdl_nodeTold_5, ↓e_Mdl_nodeTold_8, ↓e_Mdl_nodeTold_11, ↓e_Mdl_nodeTold_12, ↓e_Mdl_nodeTold_14, ↓e_Mdl_nodeTold_16, ↓e_Mdl_nodeTold_17, ↓e_Mdl_nodeTold_18, ↓e_Mdl_nodeTold_19, ↓e_Mdl_nodeTold_22, ↓e_Mdl_nodeTold_23, ↓e_Mdl_nodeTold_24, ↓e_Mdl_nodeTold_25, ↓e_Mdl_nodeTold_26, ↓e_Mdl_nodeTold_29, ↓e_Mdl_nodeTold_30, ↓e_Mdl_nodeTold_31, ↓e_Mdl_nodeTold_32, ↓e_Mdl_nodeTold_33, ↓e_Mdl_nodeTold_36, ↓e_Mdl_nodeTold_37, ↓e_Mdl_nodeTold_38, ↓e_Mdl_nodeTold_39, ↓e_Mdl_nodeTold_40, ↓e_Mdl_nodeTold_43, ↓e_Mdl_nodeTold_46, ↓e_Mdl_nodeTold_47, ↓e_Mdl_nodeTold_48, ↓e_Mdl_nodeTold_49, ↓e_Mdl_nodeTold_50, ↓e_Mdl_nodeTold_53, ↓e_Mdl_nodeTold_56, ↓e_Mdl_nodeTold_58, ↓e_Mdl_nodeTold_59, ↓e_Mdl_nodeTold_60, ↓e_Mdl_nodeTold_63, ↓e_Mdl_nodeTold_64, ↓e_Mdl_nodeTold_65, ↓e_Mdl_nodeTold_67, ↓e_Mdl_nodeTold_68, ↓e_Mdl_nodeTold_71, ↓e_Mdl_nodeTold_72, ↓e_Mdl_nodeTold_73, ↓e_Mdl_nodeTold_75, ↓e_Mdl_nodeTold_76, ↓e_Mdl_nodeTold_79, ↓e_Mdl_nodeTold_80, ↓e_Mdl_nodeTold_81, ↓e_Mdl_nodeTold_83, ↓e_Mdl_nodeTold_84, ↓e_Mdl_nodeTold_87, ↓e_Mdl_nodeTold_88, ↓e_Mdl_nodeTold_89, ↓e_Mdl_nodeTold_91, ↓e_Mdl_nodeTold_92, ↓e_Mdl_nodeTold_95, ↓e_Mdl_nodeTold_96, ↓e_Mdl_nodeTold_97, ↓e_Mdl_nodeTold_99, ↓e_Mdl_nodeTold_100, ↓e_Mdl_nodeTold_103, ↓e_Mdl_nodeTold_104, ↓e_Mdl_nodeTold_105, ↓e_Mdl_nodeTold_107, ↓e_Mdl_nodeTold_108, ↓e_Mdl_nodeTold_111, ↓e_Mdl_nodeTold_112, ↓e_Mdl_nodeTold_113, ↓e_Mdl_nodeTold_115, ↓e_Mdl_nodeTold_116, ↓e_Mdl_nodeTold_119, ↓e_Mdl_nodeTold_121, ↓e_Mdl_nodeTold_123, ↓e_Mdl_nodeTold_124, ↓e_Mdl_nodeTold_125, ↓e_Mdl_nodeTold_128, ↓e_Mdl_nodeTold_131, ↓e_Mdl_nodeTold_133, ↓e_Mdl_nodeTold_135, ↓e_Mdl_nodeTold_136, ↓e_Mdl_nodeTold_137, ↓e_Mdl_nodeTold_140, ↓e_Mdl_nodeTold_141, ↓e_Mdl_nodeTold_142, ↓e_Mdl_nodeTold_144, ↓e_Mdl_nodeTold_145, ↓e_Mdl_nodeTold_148, ↓e_Mdl_nodeTold_151, ↓e_Mdl_nodeTold_153, ↓e_Mdl_nodeTold_154, ↓e_Mdl_nodeTold_155, not_true_eq_false, not_false_eq_true, one0, true_or, or_true, eq_self, bI_z, bI_nz, bI_o, b_ft, bI_1, bI_0, ↓kC_l, ↓kC_r, Option.toList_some, Option.toList_none, List.cons_append, List.nil_append, s1_0, s1_1i, s1_1r, s1_1w, s1_1n, s1_s, s2_0, s2_1i, s2_1r, s2_1w, s2_1n, s2_s, gI_sI, gI_sR, gI_sL, gI_sD, gR_sI, gR_sR, gR_sL, gR_sD, gL_sI, gL_sR, gL_sL, gL_sD, gD_sI, gD_sR, gD_sL, gD_sD, isK_sI, isK_sR, isK_sL, isK_sD, inL_sI, inL_sR, inL_sL, inL_sD, nx_sI, nx_sR, nx_sL, nx_sD, kd_sI, kd_sR, kd_sL, kd_sD, ln_sI, ln_sR, ln_sL, ln_sD, ↓reduceIte, c8_n, c8_1, c8_2, c8_3, c8_4, Nat.reduceAdd, Rg.nk hi, M1.2.2.1.1, L.kd, q_zsize _ L, N1.2.2.1, j4, nz, y4]
  obtain ⟨g2, e2, N2, t2⟩ := sB
  have sC : ∃ g, (∀ Q, WP Gm j_Mdl_nodeTold 57 [some (.inr (.inl (some 121))), some (.inl (ii i)), some (.inl (ii w)), some (.inr (.inl (some (p i)))), none] [.inr (.inl (some (nx h)))] g2 Q = WP Gm j_Mdl_nodeTold 120 [some (.inr (.inl (some 121))), some (.inl (ii i)), some (.inl (ii w)), some (.inr (.inl (some (p i)))), none] [.inr (.inl (some (nx h)))] g Q) ∧ Nw τ h 16 g ∧ ∀ k, k < 13 → gI g (nx h) k = tld9 n α i k := by
    have Rg := R.sw N2.w
    have kp := Rg.nk hi
    have k0 := N2.2.2.1
    have j5 : inL g2 (nx h) 5 = true := I N2 5 (by omega)
    have j6 : inL g2 (nx h) 6 = true := I N2 6 (by omega)
    have j7 : inL g2 (nx h) 7 = true := I N2 7 (by omega)
    have j8 : inL g2 (nx h) 8 = true := I N2 8 (by omega)
    have j9 : inL g2 (nx h) 9 = true := I N2 9 (by omega)
    have j10 : inL g2 (nx h) 10 = true := I N2 10 (by omega)
    have j11 : inL g2 (nx h) 11 = true := I N2 11 (by omega)
    have j12 : inL g2 (nx h) 12 = true := I N2 12 (by omega)
    generalize hg : sI (sI (sI (sI (sI (sI (sI (sI g2 (nx h) 5 (gI g2 (p i) 5)) (nx h) 6 (gI g2 (p i) 6)) (nx h) 7 (gI g2 (p i) 7)) (nx h) 8 (gI g2 (p i) 8)) (nx h) 9 (gI g2 (p i) 11)) (nx h) 10 (gI g2 (p i) 12)) (nx h) 11 (gI g2 (p i) 13)) (nx h) 12 (gI g2 (p i) 14) = g
    have N : Nw τ h 16 g := by rw [← hg]; exact (((((((N2.sI F).sI F).sI F).sI F).sI F).sI F).sI F).sI F
    have a5 : gI g2 (p i) 5 = α.1 i 5 := av N2 5 (by omega) (by omega)
    have a6 : gI g2 (p i) 6 = α.1 i 6 := av N2 6 (by omega) (by omega)
    have a7 : gI g2 (p i) 7 = α.1 i 7 := av N2 7 (by omega) (by omega)
    have a8 : gI g2 (p i) 8 = α.1 i 8 := av N2 8 (by omega) (by omega)
    have a9 : gI g2 (p i) 11 = α.1 i 10 := av N2 10 (by omega) (by omega)
    have a10 : gI g2 (p i) 12 = α.1 i 11 := av N2 11 (by omega) (by omega)
    have a11 : gI g2 (p i) 13 = α.1 i 12 := av N2 12 (by omega) (by omega)
    have a12 : gI g2 (p i) 14 = α.1 i 13 := av N2 13 (by omega) (by omega)
    refine ⟨g, fun Q => ?_, N, fun k hk => ?_⟩
    rotate_left
    · rw [← hg]
      by_cases e : k < 5
      · rw [gI_sI, if_neg (by omega), gI_sI, if_neg (by omega), gI_sI, if_neg (by omega), gI_sI, if_neg (by omega), gI_sI, if_neg (by omega), gI_sI, if_neg (by omega), gI_sI, if_neg (by omega), gI_sI, if_neg (by omega)]
        exact t2 k e
      · have : k = 5 ∨ k = 6 ∨ k = 7 ∨ k = 8 ∨ k = 9 ∨ k = 10 ∨ k = 11 ∨ k = 12 := by omega
        rcases this with rfl | rfl | rfl | rfl | rfl | rfl | rfl | rfl <;> simp only [gI_sI, Nat.reduceEqDiff, and_false, and_self, ↓reduceIte, a5, a6, a7, a8, a9, a10, a11, a12, tld9]
    simp only [↓e_Mdl_nodeTold_0, ↓e_Mdl_nodeTold_1, ↓e_Mdl_nodeTold_4, ↓e_Mdl_nodeTold_5, ↓e_Mdl_nodeTold_8, ↓e_Mdl_nodeTold_11, ↓e_Mdl_nodeTold_12, ↓e_Mdl_nodeTold_14, ↓e_Mdl_nodeTold_16, ↓e_Mdl_nodeTold_17, ↓e_Mdl_nodeTold_18, ↓e_Mdl_nodeTold_19, ↓e_Mdl_nodeTold_22, ↓e_Mdl_nodeTold_23, ↓e_Mdl_nodeTold_24, ↓e_Mdl_nodeTold_25, ↓e_Mdl_nodeTold_26, ↓e_Mdl_nodeTold_29, ↓e_Mdl_nodeTold_30, ↓e_Mdl_nodeTold_31, ↓e_Mdl_nodeTold_32, ↓e_Mdl_nodeTold_33, ↓e_Mdl_nodeTold_36, ↓e_Mdl_nodeTold_37, ↓e_Mdl_nodeTold_38, ↓e_Mdl_nodeTold_39, ↓e_Mdl_nodeTold_40, ↓e_Mdl_nodeTold_43, ↓e_Mdl_nodeTold_46, ↓e_Mdl_nodeTold_47, ↓e_Mdl_nodeTold_48, ↓e_Mdl_nodeTold_49, ↓e_Mdl_nodeTold_50, ↓e_Mdl_nodeTold_53, ↓e_Mdl_nodeTold_56, ↓e_Mdl_nodeTold_57, ↓e_Mdl_nodeTold_58, ↓e_Mdl_nodeTold_59, ↓e_Mdl_nodeTold_60, ↓e_Mdl_nodeTold_63, ↓e_Mdl_nodeTold_64, ↓e_Mdl_nodeTold_65, ↓e_Mdl_nodeTold_67, ↓e_Mdl_nodeTold_68, ↓e_Mdl_nodeTold_71, ↓e_Mdl_nodeTold_72, ↓e_Mdl_nodeTold_73, ↓e_Mdl_nodeTold_75, ↓e_Mdl_nodeTold_76, ↓e_Mdl_nodeTold_79, ↓e_Mdl_nodeTold_80, ↓e_Mdl_nodeTold_81, ↓e_Mdl_nodeTold_83, ↓e_Mdl_nodeTold_84, ↓e_Mdl_nodeTold_87, ↓e_Mdl_nodeTold_88, ↓e_Mdl_nodeTold_89, ↓e_Mdl_nodeTold_91, ↓e_Mdl_nodeTold_92, ↓e_Mdl_nodeTold_95, ↓e_Mdl_nodeTold_96, ↓e_Mdl_nodeTold_97, ↓e_Mdl_nodeTold_99, ↓e_Mdl_nodeTold_100, ↓e_Mdl_nodeTold_103, ↓e_Mdl_nodeTold_104, ↓e_Mdl_nodeTold_105, ↓e_Mdl_nodeTold_107, ↓e_Mdl_nodeTold_108, ↓e_Mdl_nodeTold_111, ↓e_Mdl_nodeTold_112, ↓e_Mdl_nodeTold_113, ↓e_Mdl_nodeTold_115, ↓e_Mdl_nodeTold_116, ↓e_Mdl_nodeTold_119, ↓e_Mdl_nodeTold_121, ↓e_Mdl_nodeTold_123, ↓e_Mdl_nodeTold_124, ↓e_Mdl_nodeTold_125, ↓e_Mdl_nodeTold_128, ↓e_Mdl_nodeTold_131, ↓e_Mdl_nodeTold_133, ↓e_Mdl_nodeTold_135, ↓e_Mdl_nodeTold_136, ↓e_Mdl_nodeTold_137, ↓e_Mdl_nodeTold_140, ↓e_Mdl_nodeTold_141, ↓e_Mdl_nodeTold_142, ↓e_Mdl_nodeTold_144, ↓e_Mdl_nodeTold_145, ↓e_Mdl_nodeTold_148, ↓e_Mdl_nodeTold_151, ↓e_Mdl_nodeTold_153, ↓e_Mdl_nodeTold_154, ↓e_Mdl_nodeTold_155, not_true_eq_false, not_false_eq_true, one0, true_or, or_true, eq_self, bI_z, bI_nz, bI_o, b_ft, bI_1, bI_0, ↓kC_l, ↓kC_r, Option.toList_some, Option.toList_none, List.cons_append, List.nil_append, s1_0, s1_1i, s1_1r, s1_1w, s1_1n, s1_s, s2_0, s2_1i, s2_1r, s2_1w, s2_1n, s2_s, gI_sI, gI_sR, gI_sL, gI_sD, gR_sI, gR_sR, gR_sL, gR_sD, gL_sI, gL_sR, gL_sL, gL_sD, gD_sI, gD_sR, gD_sL, gD_sD, isK_sI, isK_sR, isK_sL, isK_sD, inL_sI, inL_sR, inL_sL, inL_sD, nx_sI, nx_sR, nx_sL, nx_sD, kd_sI, kd_sR, kd_sL, kd_sD, ln_sI, ln_sR, ln_sL, ln_sD, ↓reduceIte, c8_n, c8_1, c8_2, c8_3, c8_4, Nat.reduceAdd, kp, k0, j5, j6, j7, j8, j9, j10, j11, j12, nz, y5, y6, y7, y8, y9, y10, y11, y12, hpn, false_and, hg]
  obtain ⟨g3, e3, N3, t3⟩ := sC
  have sD : ∃ g, (∀ Q, WP Gm j_Mdl_nodeTold 120 [some (.inr (.inl (some 121))), some (.inl (ii i)), some (.inl (ii w)), some (.inr (.inl (some (p i)))), none] [.inr (.inl (some (nx h)))] g3 Q = WP Gm j_Mdl_nodeTold 132 [some (.inr (.inl (some 121))), some (.inl (ii i)), some (.inl (ii w)), some (.inr (.inl (some (p i)))), none] [.inr (.inl (some (nx h)))] g Q) ∧ Nw τ h 16 g ∧ ∀ k, k < 14 → gI g (nx h) k = tld9 n α i k := by
    have Rg := R.sw N3.w
    have j13 : inL g3 (nx h) 13 = true := I N3 13 (by omega)
    have eS := (V.jk R N3.2.2.2.2).su hi
    refine ⟨sI g3 (nx h) 13 (bI (msu g3 p i n)), fun Q => ?_, N3.sI F, fun k hk => ?_⟩
    rotate_left
    · rw [gI_sI]
      by_cases e : k = 13
      · rw [if_pos ⟨rfl, e⟩, e, eS]; rfl
      · rw [if_neg (fun w => e w.2)]; exact t3 k (by omega)
    simp only [↓e_Mdl_nodeTold_0, ↓e_Mdl_nodeTold_1, ↓e_Mdl_nodeTold_4, ↓e_Mdl_nodeTold_5, ↓e_Mdl_nodeTold_8, ↓e_Mdl_nodeTold_11, ↓e_Mdl_nodeTold_12, ↓e_Mdl_nodeTold_14, ↓e_Mdl_nodeTold_16, ↓e_Mdl_nodeTold_17, ↓e_Mdl_nodeTold_18, ↓e_Mdl_nodeTold_19, ↓e_Mdl_nodeTold_22, ↓e_Mdl_nodeTold_23, ↓e_Mdl_nodeTold_24, ↓e_Mdl_nodeTold_25, ↓e_Mdl_nodeTold_26, ↓e_Mdl_nodeTold_29, ↓e_Mdl_nodeTold_30, ↓e_Mdl_nodeTold_31, ↓e_Mdl_nodeTold_32, ↓e_Mdl_nodeTold_33, ↓e_Mdl_nodeTold_36, ↓e_Mdl_nodeTold_37, ↓e_Mdl_nodeTold_38, ↓e_Mdl_nodeTold_39, ↓e_Mdl_nodeTold_40, ↓e_Mdl_nodeTold_43, ↓e_Mdl_nodeTold_46, ↓e_Mdl_nodeTold_47, ↓e_Mdl_nodeTold_48, ↓e_Mdl_nodeTold_49, ↓e_Mdl_nodeTold_50, ↓e_Mdl_nodeTold_53, ↓e_Mdl_nodeTold_56, ↓e_Mdl_nodeTold_57, ↓e_Mdl_nodeTold_58, ↓e_Mdl_nodeTold_59, ↓e_Mdl_nodeTold_60, ↓e_Mdl_nodeTold_63, ↓e_Mdl_nodeTold_64, ↓e_Mdl_nodeTold_65, ↓e_Mdl_nodeTold_67, ↓e_Mdl_nodeTold_68, ↓e_Mdl_nodeTold_71, ↓e_Mdl_nodeTold_72, ↓e_Mdl_nodeTold_73, ↓e_Mdl_nodeTold_75, ↓e_Mdl_nodeTold_76, ↓e_Mdl_nodeTold_79, ↓e_Mdl_nodeTold_80, ↓e_Mdl_nodeTold_81, ↓e_Mdl_nodeTold_83, ↓e_Mdl_nodeTold_84, ↓e_Mdl_nodeTold_87, ↓e_Mdl_nodeTold_88, ↓e_Mdl_nodeTold_89, ↓e_Mdl_nodeTold_91, ↓e_Mdl_nodeTold_92, ↓e_Mdl_nodeTold_95, ↓e_Mdl_nodeTold_96, ↓e_Mdl_nodeTold_97, ↓e_Mdl_nodeTold_99, ↓e_Mdl_nodeTold_100, ↓e_Mdl_nodeTold_103, ↓e_Mdl_nodeTold_104, ↓e_Mdl_nodeTold_105, ↓e_Mdl_nodeTold_107, ↓e_Mdl_nodeTold_108, ↓e_Mdl_nodeTold_111, ↓e_Mdl_nodeTold_112, ↓e_Mdl_nodeTold_113, ↓e_Mdl_nodeTold_115, ↓e_Mdl_nodeTold_116, ↓e_Mdl_nodeTold_119, ↓e_Mdl_nodeTold_120, ↓e_Mdl_nodeTold_121, ↓e_Mdl_nodeTold_123, ↓e_Mdl_nodeTold_124, ↓e_Mdl_nodeTold_125, ↓e_Mdl_nodeTold_128, ↓e_Mdl_nodeTold_131, ↓e_Mdl_nodeTold_133, ↓e_Mdl_nodeTold_135, ↓e_Mdl_nodeTold_136, ↓e_Mdl_nodeTold_137, ↓e_Mdl_nodeTold_140, ↓e_Mdl_nodeTold_141, ↓e_Mdl_nodeTold_142, ↓e_Mdl_nodeTold_144, ↓e_Mdl_nodeTold_145, ↓e_Mdl_nodeTold_148, ↓e_Mdl_nodeTold_151, ↓e_Mdl_nodeTold_153, ↓e_Mdl_nodeTold_154, ↓e_Mdl_nodeTold_155, not_true_eq_false, not_false_eq_true, one0, true_or, or_true, eq_self, bI_z, bI_nz, bI_o, b_ft, bI_1, bI_0, ↓kC_l, ↓kC_r, Option.toList_some, Option.toList_none, List.cons_append, List.nil_append, s1_0, s1_1i, s1_1r, s1_1w, s1_1n, s1_s, s2_0, s2_1i, s2_1r, s2_1w, s2_1n, s2_s, gI_sI, gI_sR, gI_sL, gI_sD, gR_sI, gR_sR, gR_sL, gR_sD, gL_sI, gL_sR, gL_sL, gL_sD, gD_sI, gD_sR, gD_sL, gD_sD, isK_sI, isK_sR, isK_sL, isK_sD, inL_sI, inL_sR, inL_sL, inL_sD, nx_sI, nx_sR, nx_sL, nx_sD, kd_sI, kd_sR, kd_sL, kd_sD, ln_sI, ln_sR, ln_sL, ln_sD, ↓reduceIte, c8_n, c8_1, c8_2, c8_3, c8_4, Nat.reduceAdd, Rg.k, q_msuspect _ Rg hi, q_mone, N3.2.2.1, j13, nz, y13]
  obtain ⟨g4, e4, N4, t4⟩ := sD
  have sE : ∃ g, (∀ Q, WP Gm j_Mdl_nodeTold 132 [some (.inr (.inl (some 121))), some (.inl (ii i)), some (.inl (ii w)), some (.inr (.inl (some (p i)))), none] [.inr (.inl (some (nx h)))] g4 Q = WP Gm j_Mdl_nodeTold 149 [some (.inr (.inl (some 121))), some (.inl (ii i)), some (.inl (ii w)), some (.inr (.inl (some (p i)))), none] [.inr (.inl (some (nx h)))] g Q) ∧ Nw τ h 16 g ∧ ∀ k, k < 16 → gI g (nx h) k = tld9 n α i k := by
    have Rg := R.sw N4.w
    have kp := Rg.nk hi
    have k0 := N4.2.2.1
    have j14 : inL g4 (nx h) 14 = true := I N4 14 (by omega)
    have j15 : inL g4 (nx h) 15 = true := I N4 15 (by omega)
    have eL := (V.jk R N4.2.2.2.2).lk hi
    have a14 : gI g4 (p i) 15 = α.1 i 14 := av N4 14 (by omega) (by omega)
    refine ⟨sI (sI g4 (nx h) 14 (mlk g4 p i n)) (nx h) 15 (gI g4 (p i) 15), fun Q => ?_, (N4.sI F).sI F, fun k hk => ?_⟩
    rotate_left
    · rw [gI_sI]
      by_cases e : k = 15
      · rw [if_pos ⟨rfl, e⟩, e, a14]; rfl
      · rw [if_neg (fun w => e w.2), gI_sI]
        by_cases e2 : k = 14
        · rw [if_pos ⟨rfl, e2⟩, e2, eL]; rfl
        · rw [if_neg (fun w => e2 w.2)]; exact t4 k (by omega)
    simp only [↓e_Mdl_nodeTold_0, ↓e_Mdl_nodeTold_1, ↓e_Mdl_nodeTold_4, ↓e_Mdl_nodeTold_5, ↓e_Mdl_nodeTold_8, ↓e_Mdl_nodeTold_11, ↓e_Mdl_nodeTold_12, ↓e_Mdl_nodeTold_14, ↓e_Mdl_nodeTold_16, ↓e_Mdl_nodeTold_17, ↓e_Mdl_nodeTold_18, ↓e_Mdl_nodeTold_19, ↓e_Mdl_nodeTold_22, ↓e_Mdl_nodeTold_23, ↓e_Mdl_nodeTold_24, ↓e_Mdl_nodeTold_25, ↓e_Mdl_nodeTold_26, ↓e_Mdl_nodeTold_29, ↓e_Mdl_nodeTold_30, ↓e_Mdl_nodeTold_31, ↓e_Mdl_nodeTold_32, ↓e_Mdl_nodeTold_33, ↓e_Mdl_nodeTold_36, ↓e_Mdl_nodeTold_37, ↓e_Mdl_nodeTold_38, ↓e_Mdl_nodeTold_39, ↓e_Mdl_nodeTold_40, ↓e_Mdl_nodeTold_43, ↓e_Mdl_nodeTold_46, ↓e_Mdl_nodeTold_47, ↓e_Mdl_nodeTold_48, ↓e_Mdl_nodeTold_49, ↓e_Mdl_nodeTold_50, ↓e_Mdl_nodeTold_53, ↓e_Mdl_nodeTold_56, ↓e_Mdl_nodeTold_57, ↓e_Mdl_nodeTold_58, ↓e_Mdl_nodeTold_59, ↓e_Mdl_nodeTold_60, ↓e_Mdl_nodeTold_63, ↓e_Mdl_nodeTold_64, ↓e_Mdl_nodeTold_65, ↓e_Mdl_nodeTold_67, ↓e_Mdl_nodeTold_68, ↓e_Mdl_nodeTold_71, ↓e_Mdl_nodeTold_72, ↓e_Mdl_nodeTold_73, ↓e_Mdl_nodeTold_75, ↓e_Mdl_nodeTold_76, ↓e_Mdl_nodeTold_79, ↓e_Mdl_nodeTold_80, ↓e_Mdl_nodeTold_81, ↓e_Mdl_nodeTold_83, ↓e_Mdl_nodeTold_84, ↓e_Mdl_nodeTold_87, ↓e_Mdl_nodeTold_88, ↓e_Mdl_nodeTold_89, ↓e_Mdl_nodeTold_91, ↓e_Mdl_nodeTold_92, ↓e_Mdl_nodeTold_95, ↓e_Mdl_nodeTold_96, ↓e_Mdl_nodeTold_97, ↓e_Mdl_nodeTold_99, ↓e_Mdl_nodeTold_100, ↓e_Mdl_nodeTold_103, ↓e_Mdl_nodeTold_104, ↓e_Mdl_nodeTold_105, ↓e_Mdl_nodeTold_107, ↓e_Mdl_nodeTold_108, ↓e_Mdl_nodeTold_111, ↓e_Mdl_nodeTold_112, ↓e_Mdl_nodeTold_113, ↓e_Mdl_nodeTold_115, ↓e_Mdl_nodeTold_116, ↓e_Mdl_nodeTold_119, ↓e_Mdl_nodeTold_120, ↓e_Mdl_nodeTold_121, ↓e_Mdl_nodeTold_123, ↓e_Mdl_nodeTold_124, ↓e_Mdl_nodeTold_125, ↓e_Mdl_nodeTold_128, ↓e_Mdl_nodeTold_131, ↓e_Mdl_nodeTold_132, ↓e_Mdl_nodeTold_133, ↓e_Mdl_nodeTold_135, ↓e_Mdl_nodeTold_136, ↓e_Mdl_nodeTold_137, ↓e_Mdl_nodeTold_140, ↓e_Mdl_nodeTold_141, ↓e_Mdl_nodeTold_142, ↓e_Mdl_nodeTold_144, ↓e_Mdl_nodeTold_145, ↓e_Mdl_nodeTold_148, ↓e_Mdl_nodeTold_151, ↓e_Mdl_nodeTold_153, ↓e_Mdl_nodeTold_154, ↓e_Mdl_nodeTold_155, not_true_eq_false, not_false_eq_true, one0, true_or, or_true, eq_self, bI_z, bI_nz, bI_o, b_ft, bI_1, bI_0, ↓kC_l, ↓kC_r, Option.toList_some, Option.toList_none, List.cons_append, List.nil_append, s1_0, s1_1i, s1_1r, s1_1w, s1_1n, s1_s, s2_0, s2_1i, s2_1r, s2_1w, s2_1n, s2_s, gI_sI, gI_sR, gI_sL, gI_sD, gR_sI, gR_sR, gR_sL, gR_sD, gL_sI, gL_sR, gL_sL, gL_sD, gD_sI, gD_sR, gD_sL, gD_sD, isK_sI, isK_sR, isK_sL, isK_sD, inL_sI, inL_sR, inL_sL, inL_sD, nx_sI, nx_sR, nx_sL, nx_sD, kd_sI, kd_sR, kd_sL, kd_sD, ln_sI, ln_sR, ln_sL, ln_sD, ↓reduceIte, c8_n, c8_1, c8_2, c8_3, c8_4, Nat.reduceAdd, Rg.k, q_mlk _ Rg hi, kp, k0, j14, j15, nz, y14, y15, hpn, false_and]
  obtain ⟨g5, e5, N5, t5⟩ := sE
  have iw : inL g5 (nx h) (ii w) = true := N5.in (by omega) (by omega)
  have t6 := t5 w (by omega)
  refine ⟨g5, fun Q => ?_, N5⟩
  rw [e1, e2, e3, e4, e5]
  simp only [↓e_Mdl_nodeTold_0, ↓e_Mdl_nodeTold_1, ↓e_Mdl_nodeTold_4, ↓e_Mdl_nodeTold_5, ↓e_Mdl_nodeTold_8, ↓e_Mdl_nodeTold_11, ↓e_Mdl_nodeTold_12, ↓e_Mdl_nodeTold_14, ↓e_Mdl_nodeTold_16, ↓e_Mdl_nodeTold_17, ↓e_Mdl_nodeTold_18, ↓e_Mdl_nodeTold_19, ↓e_Mdl_nodeTold_22, ↓e_Mdl_nodeTold_23, ↓e_Mdl_nodeTold_24, ↓e_Mdl_nodeTold_25, ↓e_Mdl_nodeTold_26, ↓e_Mdl_nodeTold_29, ↓e_Mdl_nodeTold_30, ↓e_Mdl_nodeTold_31, ↓e_Mdl_nodeTold_32, ↓e_Mdl_nodeTold_33, ↓e_Mdl_nodeTold_36, ↓e_Mdl_nodeTold_37, ↓e_Mdl_nodeTold_38, ↓e_Mdl_nodeTold_39, ↓e_Mdl_nodeTold_40, ↓e_Mdl_nodeTold_43, ↓e_Mdl_nodeTold_46, ↓e_Mdl_nodeTold_47, ↓e_Mdl_nodeTold_48, ↓e_Mdl_nodeTold_49, ↓e_Mdl_nodeTold_50, ↓e_Mdl_nodeTold_53, ↓e_Mdl_nodeTold_56, ↓e_Mdl_nodeTold_57, ↓e_Mdl_nodeTold_58, ↓e_Mdl_nodeTold_59, ↓e_Mdl_nodeTold_60, ↓e_Mdl_nodeTold_63, ↓e_Mdl_nodeTold_64, ↓e_Mdl_nodeTold_65, ↓e_Mdl_nodeTold_67, ↓e_Mdl_nodeTold_68, ↓e_Mdl_nodeTold_71, ↓e_Mdl_nodeTold_72, ↓e_Mdl_nodeTold_73, ↓e_Mdl_nodeTold_75, ↓e_Mdl_nodeTold_76, ↓e_Mdl_nodeTold_79, ↓e_Mdl_nodeTold_80, ↓e_Mdl_nodeTold_81, ↓e_Mdl_nodeTold_83, ↓e_Mdl_nodeTold_84, ↓e_Mdl_nodeTold_87, ↓e_Mdl_nodeTold_88, ↓e_Mdl_nodeTold_89, ↓e_Mdl_nodeTold_91, ↓e_Mdl_nodeTold_92, ↓e_Mdl_nodeTold_95, ↓e_Mdl_nodeTold_96, ↓e_Mdl_nodeTold_97, ↓e_Mdl_nodeTold_99, ↓e_Mdl_nodeTold_100, ↓e_Mdl_nodeTold_103, ↓e_Mdl_nodeTold_104, ↓e_Mdl_nodeTold_105, ↓e_Mdl_nodeTold_107, ↓e_Mdl_nodeTold_108, ↓e_Mdl_nodeTold_111, ↓e_Mdl_nodeTold_112, ↓e_Mdl_nodeTold_113, ↓e_Mdl_nodeTold_115, ↓e_Mdl_nodeTold_116, ↓e_Mdl_nodeTold_119, ↓e_Mdl_nodeTold_120, ↓e_Mdl_nodeTold_121, ↓e_Mdl_nodeTold_123, ↓e_Mdl_nodeTold_124, ↓e_Mdl_nodeTold_125, ↓e_Mdl_nodeTold_128, ↓e_Mdl_nodeTold_131, ↓e_Mdl_nodeTold_132, ↓e_Mdl_nodeTold_133, ↓e_Mdl_nodeTold_135, ↓e_Mdl_nodeTold_136, ↓e_Mdl_nodeTold_137, ↓e_Mdl_nodeTold_140, ↓e_Mdl_nodeTold_141, ↓e_Mdl_nodeTold_142, ↓e_Mdl_nodeTold_144, ↓e_Mdl_nodeTold_145, ↓e_Mdl_nodeTold_148, ↓e_Mdl_nodeTold_149, ↓e_Mdl_nodeTold_151, ↓e_Mdl_nodeTold_153, ↓e_Mdl_nodeTold_154, ↓e_Mdl_nodeTold_155, not_true_eq_false, not_false_eq_true, one0, true_or, or_true, eq_self, bI_z, bI_nz, bI_o, b_ft, bI_1, bI_0, ↓kC_l, ↓kC_r, Option.toList_some, Option.toList_none, List.cons_append, List.nil_append, s1_0, s1_1i, s1_1r, s1_1w, s1_1n, s1_s, s2_0, s2_1i, s2_1r, s2_1w, s2_1n, s2_s, gI_sI, gI_sR, gI_sL, gI_sD, gR_sI, gR_sR, gR_sL, gR_sD, gL_sI, gL_sR, gL_sL, gL_sD, gD_sI, gD_sR, gD_sL, gD_sD, isK_sI, isK_sR, isK_sL, isK_sD, inL_sI, inL_sR, inL_sL, inL_sD, nx_sI, nx_sR, nx_sL, nx_sD, kd_sI, kd_sR, kd_sL, kd_sD, ln_sI, ln_sR, ln_sL, ln_sD, ↓reduceIte, c8_n, c8_1, c8_2, c8_3, c8_4, Nat.reduceAdd, N5.2.2.1, iw, ii_nat (show w < 2147483648 by omega), t6]
theorem qx_mofNode (R : RM τ n p (8 * B) c B K h) (V0 : RA τ n p c B (sI h 121 0 0) α) (VB : BB τ b9 x9 p9 m h) (hn1 : nx h + 1000 ≤ 580300) (hs1 : sc h + 7000 ≤ 5700000) (x y : Int32) :
    ∃ v h', (∀ Q, WP Gm j_Mdl_ofNode 0 [some (.inr (.inl (some 121))), some (.inl x), some (.inl y)] [] h Q = Q (.inl (some (.inl v))) h') ∧ RES τ n c B K b9 x9 p9 m h h' v (ofn9 n α x y) := by
  have hn := R.n8
  have R0 : RM τ n p (8 * B) c B K (sI h 121 0 0) := R.th
  unfold ofn9
  rcases node_cases hn x with hb | ⟨hb, i, hi, rfl⟩
  · rw [if_pos (isN_no hb)]
    refine ⟨0, sI (sI h 121 0 0) 121 0 1, fun Q => ?_, RES.no R V0 VB (by decide) 0 0⟩
    simp only [↓e_Mdl_ofNode_0, ↓e_Mdl_ofNode_1, ↓e_Mdl_ofNode_2, ↓e_Mdl_ofNode_3, ↓e_Mdl_ofNode_6, ↓e_Mdl_ofNode_7, ↓e_Mdl_ofNode_10, ↓e_Mdl_ofNode_13, ↓e_Mdl_ofNode_14, ↓e_Mdl_ofNode_15, ↓e_Mdl_ofNode_16, ↓e_Mdl_ofNode_18, ↓e_Mdl_ofNode_21, ↓e_Mdl_ofNode_24, ↓e_Mdl_ofNode_25, ↓e_Mdl_ofNode_28, ↓e_Mdl_ofNode_29, ↓e_Mdl_ofNode_30, ↓e_Mdl_ofNode_33, ↓e_Mdl_ofNode_36, ↓e_Mdl_ofNode_37, ↓e_Mdl_ofNode_40, ↓e_Mdl_ofNode_41, ↓e_Mdl_ofNode_42, ↓e_Mdl_ofNode_43, ↓e_Mdl_ofNode_46, not_true_eq_false, not_false_eq_true, one0, true_or, or_true, eq_self, bI_z, bI_nz, bI_o, b_ft, bI_1, bI_0, ↓kC_l, ↓kC_r, Option.toList_some, Option.toList_none, List.cons_append, List.nil_append, s1_0, s1_1i, s1_1r, s1_1w, s1_1n, s1_s, s2_0, s2_1i, s2_1r, s2_1w, s2_1n, s2_s, gI_sI, gI_sR, gI_sL, gI_sD, gR_sI, gR_sR, gR_sL, gR_sD, gL_sI, gL_sR, gL_sL, gL_sD, gD_sI, gD_sR, gD_sL, gD_sD, isK_sI, isK_sR, isK_sL, isK_sD, inL_sI, inL_sR, inL_sL, inL_sD, nx_sI, nx_sR, nx_sL, nx_sD, kd_sI, kd_sR, kd_sL, kd_sD, ln_sI, ln_sR, ln_sL, ln_sD, ↓reduceIte, c8_n, c8_1, c8_2, c8_3, c8_4, Nat.reduceAdd, R.k, q_nbody _ R, hb, q_stT _ R]
  · rw [if_neg (by rw [isN_ok hb]; decide), tn_ii (show i < 2147483648 by omega)]
    cases e1 : (decide (0 ≤ y) && decide (y ≤ 15)) with
    | false =>
      rw [if_pos rfl]
      refine ⟨0, sI (sI h 121 0 0) 121 0 2, fun Q => ?_, RES.no R V0 VB (by decide) 0 0⟩
      simp only [↓e_Mdl_ofNode_0, ↓e_Mdl_ofNode_1, ↓e_Mdl_ofNode_2, ↓e_Mdl_ofNode_3, ↓e_Mdl_ofNode_6, ↓e_Mdl_ofNode_7, ↓e_Mdl_ofNode_10, ↓e_Mdl_ofNode_13, ↓e_Mdl_ofNode_14, ↓e_Mdl_ofNode_15, ↓e_Mdl_ofNode_16, ↓e_Mdl_ofNode_18, ↓e_Mdl_ofNode_21, ↓e_Mdl_ofNode_24, ↓e_Mdl_ofNode_25, ↓e_Mdl_ofNode_28, ↓e_Mdl_ofNode_29, ↓e_Mdl_ofNode_30, ↓e_Mdl_ofNode_33, ↓e_Mdl_ofNode_36, ↓e_Mdl_ofNode_37, ↓e_Mdl_ofNode_40, ↓e_Mdl_ofNode_41, ↓e_Mdl_ofNode_42, ↓e_Mdl_ofNode_43, ↓e_Mdl_ofNode_46, not_true_eq_false, not_false_eq_true, one0, true_or, or_true, eq_self, bI_z, bI_nz, bI_o, b_ft, bI_1, bI_0, ↓kC_l, ↓kC_r, Option.toList_some, Option.toList_none, List.cons_append, List.nil_append, s1_0, s1_1i, s1_1r, s1_1w, s1_1n, s1_s, s2_0, s2_1i, s2_1r, s2_1w, s2_1n, s2_s, gI_sI, gI_sR, gI_sL, gI_sD, gR_sI, gR_sR, gR_sL, gR_sD, gL_sI, gL_sR, gL_sL, gL_sD, gD_sI, gD_sR, gD_sL, gD_sD, isK_sI, isK_sR, isK_sL, isK_sD, inL_sI, inL_sR, inL_sL, inL_sD, nx_sI, nx_sR, nx_sL, nx_sD, kd_sI, kd_sR, kd_sL, kd_sD, ln_sI, ln_sR, ln_sL, ln_sD, ↓reduceIte, c8_n, c8_1, c8_2, c8_3, c8_4, Nat.reduceAdd, R.k, q_nbody _ R, hb, q_stF _ R, R0.k, q_misIn, e1, q_rfT _ R0 (show (0 : Int32) < 2 by decide) (th0 h)]
    | true =>
      rw [if_neg (by decide)]
      obtain ⟨w, w1, rfl⟩ := i32_cases (b := 15) (by omega) e1
      rw [tn_ii (show w < 2147483648 by omega)]
      obtain ⟨g, g1, N⟩ := qx_mnodeTold R0 V0 hi w1 (by show nx h + 1 ≤ _; omega) (by show sc h + 16 ≤ _; omega)
      have n1 : nx g = nx h + 1 := N.1
      have s1 : sc g = sc h + 16 := N.2.1
      refine ⟨tld9 n α i w, g, fun Q => ?_, RES.ok R V0 VB N.2.2.2.2 (by omega) (by omega) _⟩
      simp only [↓e_Mdl_ofNode_0, ↓e_Mdl_ofNode_1, ↓e_Mdl_ofNode_2, ↓e_Mdl_ofNode_3, ↓e_Mdl_ofNode_6, ↓e_Mdl_ofNode_7, ↓e_Mdl_ofNode_10, ↓e_Mdl_ofNode_13, ↓e_Mdl_ofNode_14, ↓e_Mdl_ofNode_15, ↓e_Mdl_ofNode_16, ↓e_Mdl_ofNode_18, ↓e_Mdl_ofNode_21, ↓e_Mdl_ofNode_24, ↓e_Mdl_ofNode_25, ↓e_Mdl_ofNode_28, ↓e_Mdl_ofNode_29, ↓e_Mdl_ofNode_30, ↓e_Mdl_ofNode_33, ↓e_Mdl_ofNode_36, ↓e_Mdl_ofNode_37, ↓e_Mdl_ofNode_40, ↓e_Mdl_ofNode_41, ↓e_Mdl_ofNode_42, ↓e_Mdl_ofNode_43, ↓e_Mdl_ofNode_46, not_true_eq_false, not_false_eq_true, one0, true_or, or_true, eq_self, bI_z, bI_nz, bI_o, b_ft, bI_1, bI_0, ↓kC_l, ↓kC_r, Option.toList_some, Option.toList_none, List.cons_append, List.nil_append, s1_0, s1_1i, s1_1r, s1_1w, s1_1n, s1_s, s2_0, s2_1i, s2_1r, s2_1w, s2_1n, s2_s, gI_sI, gI_sR, gI_sL, gI_sD, gR_sI, gR_sR, gR_sL, gR_sD, gL_sI, gL_sR, gL_sL, gL_sD, gD_sI, gD_sR, gD_sL, gD_sD, isK_sI, isK_sR, isK_sL, isK_sD, inL_sI, inL_sR, inL_sL, inL_sD, nx_sI, nx_sR, nx_sL, nx_sD, kd_sI, kd_sR, kd_sL, kd_sD, ln_sI, ln_sR, ln_sL, ln_sD, ↓reduceIte, c8_n, c8_1, c8_2, c8_3, c8_4, Nat.reduceAdd, R.k, q_nbody _ R, hb, q_stF _ R, R0.k, q_misIn, e1, q_rfF _ R0 _ (th0 h), g1]
theorem jl_lt {a b : Nat} (ha : a < 9223372036854775808) (hb : b < 9223372036854775808) : (jl a < jl b) = (a < b) := by
  apply propext
  rw [Int64.lt_iff_toInt_lt, jl_int ha, jl_int hb]
  omega
theorem lg_lt {x y : Int64} : (lg_cmp x y < 0) = (x < y) := by
  unfold lg_cmp
  apply propext
  by_cases h1 : x > y
  · rw [if_pos h1]
    refine ⟨fun w => absurd w (by decide), fun w => ?_⟩
    have a := Int64.lt_iff_toInt_lt.mp w
    have b := Int64.lt_iff_toInt_lt.mp h1
    omega
  · rw [if_neg h1]
    by_cases h2 : x = y
    · rw [if_pos h2]
      refine ⟨fun w => absurd w (by decide), fun w => ?_⟩
      have a := Int64.lt_iff_toInt_lt.mp w
      rw [h2] at a
      omega
    · rw [if_neg h2]
      refine ⟨fun _ => ?_, fun _ => by decide⟩
      have b : ¬ y.toInt < x.toInt := fun w => h1 (Int64.lt_iff_toInt_lt.mpr w)
      have d : x.toInt ≠ y.toInt := fun w => h2 (Int64.toInt_inj.mp w)
      exact Int64.lt_iff_toInt_lt.mpr (by omega)
/-- the sums of the others, as ints and as longs -/
theorem su_num (C : ∀ k, k < n → ∃ p r, α.1 k 12 = ii p ∧ α.1 k 13 = ii r ∧ p ≤ 62000 ∧ r ≤ 2000) (i : Nat) : ∀ k, k ≤ n → ∃ P Q, P ≤ 62000 * k ∧ Q ≤ 2000 * k ∧ upto (suS9 α i) k 0 (0, 0) = (ii P, ii Q) ∧ upto (fun k a => if k = i then a else (a.1 + (α.1 k 12).toInt64, a.2 + (α.1 k 13).toInt64)) k 0 ((0, 0) : Int64 × Int64) = (jl P, jl Q)
  | 0, _ => ⟨0, 0, by omega, by omega, rfl, rfl⟩
  | k + 1, hk => by
    obtain ⟨P, Q, h1, h2, h3, h4⟩ := su_num C i k (by omega)
    obtain ⟨p, r, c1, c2, c3, c4⟩ := C k (by omega)
    rw [upto_end, upto_end, h3, h4, Nat.zero_add]
    unfold suS9
    by_cases e : k = i
    · rw [if_pos e, if_pos e]
      exact ⟨P, Q, by omega, by omega, rfl, rfl⟩
    · rw [if_neg e, if_neg e]
      dsimp only
      rw [c1, c2, ii_add, ii_add, ii_long (show p < 2147483648 by omega), ii_long (show r < 2147483648 by omega), jl_add, jl_add]
      exact ⟨P + p, Q + r, by omega, by omega, rfl, rfl⟩
theorem lv_num {B T : Nat} (L : LV n B T h) (hB : B ≤ 2000) (V : CA n h α) : ∀ k, k < n → ∃ p r, α.1 k 12 = ii p ∧ α.1 k 13 = ii r ∧ p ≤ 62000 ∧ r ≤ 2000 := fun k hk => by
  obtain ⟨a, b, p, r, q1, q2, q3, q4, q5, q6, q7, q8⟩ := L.2.1 k hk
  exact ⟨p, r, (V.1 k hk 12 (by omega) (by omega)).symm.trans q3, (V.1 k hk 13 (by omega) (by omega)).symm.trans q4, by omega, by omega⟩
theorem ca_sus (V : CA n h α) (S : Str n h) (C : ∀ k, k < n → ∃ p r, α.1 k 12 = ii p ∧ α.1 k 13 = ii r ∧ p ≤ 62000 ∧ r ≤ 2000) {i : Nat} (hi : i < n) : ∀ Q, WP Gm j_Land_isSuspect 0 [some (.inr (.inl (some 2))), some (.inl (ii i)), none, none, none, none, none, none, none, none, none] [] h Q = Q (.inl (some (.inl (bI (sus9 n α i))))) h := by
  have hn := n8 S
  have hi8 : i < 8 := by omega
  have e12 : ∀ k, k < n → gI h (5 + 9 * k) 12 = α.1 k 12 := fun k hk => V.1 k hk 12 (by omega) (by omega)
  have e13 : ∀ k, k < n → gI h (5 + 9 * k) 13 = α.1 k 13 := fun k hk => V.1 k hk 13 (by omega) (by omega)
  intro Q
  have step := loop0 (fun k (a : Int64 × Int64) => WP Gm j_Land_isSuspect 32 [some (.inr (.inl (some 2))), some (.inl (ii i)), some (.inr (.inr (.inl (α.1 i 12).toInt64))), none, some (.inr (.inr (.inl (α.1 i 13).toInt64))), none, some (.inr (.inr (.inl a.1))), none, some (.inr (.inr (.inl a.2))), none, some (.inl (ii k))] [] h Q) (fun k a => if k = i then a else (a.1 + (α.1 k 12).toInt64, a.2 + (α.1 k 13).toInt64)) n
    (fun k s hk => by
      have hk8 := lt_8 (n8 S) hk
      rw [e_Land_isSuspect_32]
      simp only [↓e_Land_isSuspect_0, ↓e_Land_isSuspect_1, ↓e_Land_isSuspect_4, ↓e_Land_isSuspect_5, ↓e_Land_isSuspect_6, ↓e_Land_isSuspect_9, ↓e_Land_isSuspect_10, ↓e_Land_isSuspect_11, ↓e_Land_isSuspect_12, ↓e_Land_isSuspect_15, ↓e_Land_isSuspect_16, ↓e_Land_isSuspect_17, ↓e_Land_isSuspect_20, ↓e_Land_isSuspect_21, ↓e_Land_isSuspect_23, ↓e_Land_isSuspect_24, ↓e_Land_isSuspect_26, ↓e_Land_isSuspect_27, ↓e_Land_isSuspect_29, ↓e_Land_isSuspect_30, ↓e_Land_isSuspect_34, ↓e_Land_isSuspect_35, ↓e_Land_isSuspect_38, ↓e_Land_isSuspect_41, ↓e_Land_isSuspect_43, ↓e_Land_isSuspect_44, ↓e_Land_isSuspect_47, ↓e_Land_isSuspect_49, ↓e_Land_isSuspect_50, ↓e_Land_isSuspect_53, ↓e_Land_isSuspect_55, ↓e_Land_isSuspect_56, ↓e_Land_isSuspect_59, ↓e_Land_isSuspect_60, ↓e_Land_isSuspect_61, ↓e_Land_isSuspect_63, ↓e_Land_isSuspect_65, ↓e_Land_isSuspect_66, ↓e_Land_isSuspect_69, ↓e_Land_isSuspect_71, ↓e_Land_isSuspect_72, ↓e_Land_isSuspect_75, ↓e_Land_isSuspect_76, ↓e_Land_isSuspect_77, ↓e_Land_isSuspect_79, ↓e_Land_isSuspect_82, ↓e_Land_isSuspect_85, ↓e_Land_isSuspect_87, ↓e_Land_isSuspect_90, ↓e_Land_isSuspect_91, ↓e_Land_isSuspect_94, ↓e_Land_isSuspect_97, ↓e_Land_isSuspect_98, ↓e_Land_isSuspect_99, ↓e_Land_isSuspect_101, ↓e_Land_isSuspect_102, ↓e_Land_isSuspect_104, ↓e_Land_isSuspect_106, ↓e_Land_isSuspect_107, ↓e_Land_isSuspect_108, ↓e_Land_isSuspect_111, ↓e_Land_isSuspect_112, ↓e_Land_isSuspect_115, ↓e_Land_isSuspect_116, not_true_eq_false, not_false_eq_true, one0, true_or, or_true, eq_self, bI_z, bI_nz, bI_o, b_ft, bI_1, bI_0, ↓kC_l, ↓kC_r, Option.toList_some, Option.toList_none, List.cons_append, List.nil_append, s1_0, s1_1i, s1_1r, s1_1w, s1_1n, s1_s, s2_0, s2_1i, s2_1r, s2_1w, s2_1n, s2_s, gI_sI, gI_sR, gI_sL, gI_sD, gR_sI, gR_sR, gR_sL, gR_sD, gL_sI, gL_sR, gL_sL, gL_sD, gD_sI, gD_sR, gD_sL, gD_sD, isK_sI, isK_sR, isK_sL, isK_sD, inL_sI, inL_sR, inL_sL, inL_sD, nx_sI, nx_sR, nx_sL, nx_sD, kd_sI, kd_sR, kd_sL, kd_sD, ln_sI, ln_sR, ln_sL, ln_sD, ↓reduceIte, c8_n, c8_1, c8_2, c8_3, c8_4, Nat.reduceAdd, k_s S, k_land S, k_nodes S, k_hear S, k_routes S, k_traffic S, k_market S, g_cnt S, r_land S, r_routes S, r_traffic S, r_market S, r_nodes S, r_hear S, r_rland S, r_tland S, r_troutes S, l_nodes S hk8, l_hear S hk8, r_node S hk8, r_queue S hk8, r_set S hk8, r_frames S hk8, r_bits S hk8, k_node S hk8, k_queue S hk8, k_frames S hk8, k_set S hk8, k_bits S hk8, ii_nat (lt31 hk8), le_f (n8 S) hk, ii_succ, ii_inj (lt31 hk8) (lt31 hi8), e12 k hk, e13 k hk]
      by_cases hki : k = i
      · rw [if_pos hki, if_pos hki]
      · rw [if_neg hki, if_neg hki]) n 0 (0, 0) (by omega)
  obtain ⟨P, R, h1, h2, h3, h4⟩ := su_num C i n (Nat.le_refl n)
  obtain ⟨p, r, c1, c2, c3, c4⟩ := C i hi
  simp only [↓e_Land_isSuspect_0, ↓e_Land_isSuspect_1, ↓e_Land_isSuspect_4, ↓e_Land_isSuspect_5, ↓e_Land_isSuspect_6, ↓e_Land_isSuspect_9, ↓e_Land_isSuspect_10, ↓e_Land_isSuspect_11, ↓e_Land_isSuspect_12, ↓e_Land_isSuspect_15, ↓e_Land_isSuspect_16, ↓e_Land_isSuspect_17, ↓e_Land_isSuspect_20, ↓e_Land_isSuspect_21, ↓e_Land_isSuspect_23, ↓e_Land_isSuspect_24, ↓e_Land_isSuspect_26, ↓e_Land_isSuspect_27, ↓e_Land_isSuspect_29, ↓e_Land_isSuspect_30, ↓e_Land_isSuspect_34, ↓e_Land_isSuspect_35, ↓e_Land_isSuspect_38, ↓e_Land_isSuspect_41, ↓e_Land_isSuspect_43, ↓e_Land_isSuspect_44, ↓e_Land_isSuspect_47, ↓e_Land_isSuspect_49, ↓e_Land_isSuspect_50, ↓e_Land_isSuspect_53, ↓e_Land_isSuspect_55, ↓e_Land_isSuspect_56, ↓e_Land_isSuspect_59, ↓e_Land_isSuspect_60, ↓e_Land_isSuspect_61, ↓e_Land_isSuspect_63, ↓e_Land_isSuspect_65, ↓e_Land_isSuspect_66, ↓e_Land_isSuspect_69, ↓e_Land_isSuspect_71, ↓e_Land_isSuspect_72, ↓e_Land_isSuspect_75, ↓e_Land_isSuspect_76, ↓e_Land_isSuspect_77, ↓e_Land_isSuspect_79, ↓e_Land_isSuspect_82, ↓e_Land_isSuspect_85, ↓e_Land_isSuspect_87, ↓e_Land_isSuspect_90, ↓e_Land_isSuspect_91, ↓e_Land_isSuspect_94, ↓e_Land_isSuspect_97, ↓e_Land_isSuspect_98, ↓e_Land_isSuspect_99, ↓e_Land_isSuspect_101, ↓e_Land_isSuspect_102, ↓e_Land_isSuspect_104, ↓e_Land_isSuspect_106, ↓e_Land_isSuspect_107, ↓e_Land_isSuspect_108, ↓e_Land_isSuspect_111, ↓e_Land_isSuspect_112, ↓e_Land_isSuspect_115, ↓e_Land_isSuspect_116, not_true_eq_false, not_false_eq_true, one0, true_or, or_true, eq_self, bI_z, bI_nz, bI_o, b_ft, bI_1, bI_0, ↓kC_l, ↓kC_r, Option.toList_some, Option.toList_none, List.cons_append, List.nil_append, s1_0, s1_1i, s1_1r, s1_1w, s1_1n, s1_s, s2_0, s2_1i, s2_1r, s2_1w, s2_1n, s2_s, gI_sI, gI_sR, gI_sL, gI_sD, gR_sI, gR_sR, gR_sL, gR_sD, gL_sI, gL_sR, gL_sL, gL_sD, gD_sI, gD_sR, gD_sL, gD_sD, isK_sI, isK_sR, isK_sL, isK_sD, inL_sI, inL_sR, inL_sL, inL_sD, nx_sI, nx_sR, nx_sL, nx_sD, kd_sI, kd_sR, kd_sL, kd_sD, ln_sI, ln_sR, ln_sL, ln_sD, ↓reduceIte, c8_n, c8_1, c8_2, c8_3, c8_4, Nat.reduceAdd, k_s S, k_land S, k_nodes S, k_hear S, k_routes S, k_traffic S, k_market S, g_cnt S, r_land S, r_routes S, r_traffic S, r_market S, r_nodes S, r_hear S, r_rland S, r_tland S, r_troutes S, l_nodes S hi8, l_hear S hi8, r_node S hi8, r_queue S hi8, r_set S hi8, r_frames S hi8, r_bits S hi8, k_node S hi8, k_queue S hi8, k_frames S hi8, k_set S hi8, k_bits S hi8, ii_nat (lt31 hi8), e12 i hi, e13 i hi]
  refine step.trans ?_
  rw [e_Land_isSuspect_32]
  simp only [↓e_Land_isSuspect_0, ↓e_Land_isSuspect_1, ↓e_Land_isSuspect_4, ↓e_Land_isSuspect_5, ↓e_Land_isSuspect_6, ↓e_Land_isSuspect_9, ↓e_Land_isSuspect_10, ↓e_Land_isSuspect_11, ↓e_Land_isSuspect_12, ↓e_Land_isSuspect_15, ↓e_Land_isSuspect_16, ↓e_Land_isSuspect_17, ↓e_Land_isSuspect_20, ↓e_Land_isSuspect_21, ↓e_Land_isSuspect_23, ↓e_Land_isSuspect_24, ↓e_Land_isSuspect_26, ↓e_Land_isSuspect_27, ↓e_Land_isSuspect_29, ↓e_Land_isSuspect_30, ↓e_Land_isSuspect_34, ↓e_Land_isSuspect_35, ↓e_Land_isSuspect_38, ↓e_Land_isSuspect_41, ↓e_Land_isSuspect_43, ↓e_Land_isSuspect_44, ↓e_Land_isSuspect_47, ↓e_Land_isSuspect_49, ↓e_Land_isSuspect_50, ↓e_Land_isSuspect_53, ↓e_Land_isSuspect_55, ↓e_Land_isSuspect_56, ↓e_Land_isSuspect_59, ↓e_Land_isSuspect_60, ↓e_Land_isSuspect_61, ↓e_Land_isSuspect_63, ↓e_Land_isSuspect_65, ↓e_Land_isSuspect_66, ↓e_Land_isSuspect_69, ↓e_Land_isSuspect_71, ↓e_Land_isSuspect_72, ↓e_Land_isSuspect_75, ↓e_Land_isSuspect_76, ↓e_Land_isSuspect_77, ↓e_Land_isSuspect_79, ↓e_Land_isSuspect_82, ↓e_Land_isSuspect_85, ↓e_Land_isSuspect_87, ↓e_Land_isSuspect_90, ↓e_Land_isSuspect_91, ↓e_Land_isSuspect_94, ↓e_Land_isSuspect_97, ↓e_Land_isSuspect_98, ↓e_Land_isSuspect_99, ↓e_Land_isSuspect_101, ↓e_Land_isSuspect_102, ↓e_Land_isSuspect_104, ↓e_Land_isSuspect_106, ↓e_Land_isSuspect_107, ↓e_Land_isSuspect_108, ↓e_Land_isSuspect_111, ↓e_Land_isSuspect_112, ↓e_Land_isSuspect_115, ↓e_Land_isSuspect_116, not_true_eq_false, not_false_eq_true, one0, true_or, or_true, eq_self, bI_z, bI_nz, bI_o, b_ft, bI_1, bI_0, ↓kC_l, ↓kC_r, Option.toList_some, Option.toList_none, List.cons_append, List.nil_append, s1_0, s1_1i, s1_1r, s1_1w, s1_1n, s1_s, s2_0, s2_1i, s2_1r, s2_1w, s2_1n, s2_s, gI_sI, gI_sR, gI_sL, gI_sD, gR_sI, gR_sR, gR_sL, gR_sD, gL_sI, gL_sR, gL_sL, gL_sD, gD_sI, gD_sR, gD_sL, gD_sD, isK_sI, isK_sR, isK_sL, isK_sD, inL_sI, inL_sR, inL_sL, inL_sD, nx_sI, nx_sR, nx_sL, nx_sD, kd_sI, kd_sR, kd_sL, kd_sD, ln_sI, ln_sR, ln_sL, ln_sD, ↓reduceIte, c8_n, c8_1, c8_2, c8_3, c8_4, Nat.reduceAdd, k_s S, k_land S, k_nodes S, k_hear S, k_routes S, k_traffic S, k_market S, g_cnt S, r_land S, r_routes S, r_traffic S, r_market S, r_nodes S, r_hear S, r_rland S, r_tland S, r_troutes S, le_t (n8 S)]
  have hs : sus9 n α i = (!decide (r < 3) && !decide (0 ≤ lg_cmp (4 * jl p * jl R) (jl P * jl r))) := by
    unfold sus9
    rw [h3, c1, c2, ii_long (show P < 2147483648 by omega), ii_long (show R < 2147483648 by omega), ii_long (show p < 2147483648 by omega), ii_long (show r < 2147483648 by omega)]
    have e3 : (ii r < (3 : Int32)) = (r < 3) := ii_lt (j := 3) (by omega) (by omega)
    simp only [e3]
  rw [h4, hs, c1, c2, ii_long (show p < 2147483648 by omega), ii_long (show r < 2147483648 by omega)]
  have e3 : (lg_cmp (jl r) 3 < 0) = (r < 3) := by
    rw [lg_lt, show (3 : Int64) = jl 3 from rfl, jl_lt (by omega) (by omega)]
  dsimp only
  simp only [e3]
  by_cases h1 : r < 3
  · rw [if_pos h1, decide_eq_true h1]; rfl
  · rw [if_neg h1, decide_eq_false h1]
    by_cases h2 : 0 ≤ lg_cmp (4 * jl p * jl R) (jl P * jl r)
    · rw [if_pos h2, decide_eq_true h2]; rfl
    · rw [if_neg h2, decide_eq_false h2]; rfl
theorem ca_of (V : CA n h α) (S : Str n h) (C : ∀ k, k < n → ∃ p r, α.1 k 12 = ii p ∧ α.1 k 13 = ii r ∧ p ≤ 62000 ∧ r ≤ 2000) {i w : Nat} (hi : i < n) (hw : w ≤ 15) : ∀ Q, WP Gm j_S_ofNode 0 [some (.inr (.inl (some 1))), some (.inl (ii i)), some (.inl (ii w)), none] [] h Q = Q (.inl (some (.inl (tld9 n α i w)))) h := by
  have hn := n8 S
  have hi8 : i < 8 := by omega
  have ev : ∀ f, f ≤ 14 → f ≠ 4 → gI h (5 + 9 * i) f = α.1 i f := fun f h1 h2 => V.1 i hi f h1 h2
  intro Q
  have : w = 0 ∨ w = 1 ∨ w = 2 ∨ w = 3 ∨ w = 4 ∨ w = 5 ∨ w = 6 ∨ w = 7 ∨ w = 8 ∨ w = 9 ∨ w = 10 ∨ w = 11 ∨ w = 12 ∨ w = 13 ∨ w = 14 ∨ w = 15 := by omega
  rcases this with rfl | rfl | rfl | rfl | rfl | rfl | rfl | rfl | rfl | rfl | rfl | rfl | rfl | rfl | rfl | rfl
  · refine (q_of0 Q S hi).trans ?_; rw [ev 0 (by omega) (by omega)]; rfl
  · refine (q_of1 Q S hi).trans ?_; rw [ev 1 (by omega) (by omega)]; rfl
  · refine (q_of2 Q S hi).trans ?_; rw [ev 2 (by omega) (by omega)]; rfl
  · refine (q_of3 Q S hi).trans ?_; rw [ev 3 (by omega) (by omega)]; rfl
  · refine (q_of4 Q S hi).trans ?_; rw [(V.2.1 i hi).1]; rfl
  · refine (q_of5 Q S hi).trans ?_; rw [ev 5 (by omega) (by omega)]; rfl
  · refine (q_of6 Q S hi).trans ?_; rw [ev 6 (by omega) (by omega)]; rfl
  · refine (q_of7 Q S hi).trans ?_; rw [ev 7 (by omega) (by omega)]; rfl
  · refine (q_of8 Q S hi).trans ?_; rw [ev 8 (by omega) (by omega)]; rfl
  · refine (q_of9 Q S hi).trans ?_; rw [ev 10 (by omega) (by omega)]; rfl
  · refine (q_of10 Q S hi).trans ?_; rw [ev 11 (by omega) (by omega)]; rfl
  · refine (q_of11 Q S hi).trans ?_; rw [ev 12 (by omega) (by omega)]; rfl
  · refine (q_of12 Q S hi).trans ?_; rw [ev 13 (by omega) (by omega)]; rfl
  · have hs := ca_sus V S C hi
    have e : WP Gm j_S_ofNode 0 [some (.inr (.inl (some 1))), some (.inl (ii i)), some (.inl 13), none] [] h Q = Q (.inl (some (.inl (bI (sus9 n α i))))) h := by
      simp only [↓e_S_ofNode_0, ↓e_S_ofNode_1, ↓e_S_ofNode_2, ↓e_S_ofNode_5, ↓e_S_ofNode_6, ↓e_S_ofNode_9, ↓e_S_ofNode_12, ↓e_S_ofNode_13, ↓e_S_ofNode_14, ↓e_S_ofNode_15, ↓e_S_ofNode_16c0, ↓e_S_ofNode_16c1, ↓e_S_ofNode_16c2, ↓e_S_ofNode_16c3, ↓e_S_ofNode_16c4, ↓e_S_ofNode_16c5, ↓e_S_ofNode_16c6, ↓e_S_ofNode_16c7, ↓e_S_ofNode_16c8, ↓e_S_ofNode_16c9, ↓e_S_ofNode_16c10, ↓e_S_ofNode_16c11, ↓e_S_ofNode_16c12, ↓e_S_ofNode_16c13, ↓e_S_ofNode_16c14, ↓e_S_ofNode_16c15, ↓e_S_ofNode_96, ↓e_S_ofNode_97, ↓e_S_ofNode_100, ↓e_S_ofNode_101, ↓e_S_ofNode_102, ↓e_S_ofNode_105, ↓e_S_ofNode_106, ↓e_S_ofNode_107, ↓e_S_ofNode_110, ↓e_S_ofNode_111, ↓e_S_ofNode_112, ↓e_S_ofNode_115, ↓e_S_ofNode_118, ↓e_S_ofNode_119, ↓e_S_ofNode_122, ↓e_S_ofNode_123, ↓e_S_ofNode_124, ↓e_S_ofNode_125, ↓e_S_ofNode_128, ↓e_S_ofNode_131, ↓e_S_ofNode_132, ↓e_S_ofNode_133, ↓e_S_ofNode_136, ↓e_S_ofNode_137, ↓e_S_ofNode_138, ↓e_S_ofNode_141, ↓e_S_ofNode_142, ↓e_S_ofNode_143, ↓e_S_ofNode_146, ↓e_S_ofNode_147, ↓e_S_ofNode_148, ↓e_S_ofNode_151, ↓e_S_ofNode_152, ↓e_S_ofNode_153, ↓e_S_ofNode_156, ↓e_S_ofNode_157, ↓e_S_ofNode_158, ↓e_S_ofNode_161, ↓e_S_ofNode_162, ↓e_S_ofNode_163, ↓e_S_ofNode_166, ↓e_S_ofNode_167, ↓e_S_ofNode_168, ↓e_S_ofNode_171, ↓e_S_ofNode_172, ↓e_S_ofNode_173, ↓e_S_ofNode_176, ↓e_S_ofNode_177, ↓e_S_ofNode_180, ↓e_S_ofNode_183, ↓e_S_ofNode_184, ↓e_S_ofNode_187, ↓e_S_ofNode_188, ↓e_S_ofNode_189, ↓e_S_ofNode_190, ↓e_S_ofNode_193, ↓e_S_ofNode_194, ↓e_S_ofNode_197, ↓e_S_ofNode_198, ↓e_S_ofNode_199, ↓e_S_ofNode_202, ↓e_S_ofNode_203, not_true_eq_false, not_false_eq_true, one0, true_or, or_true, eq_self, bI_z, bI_nz, bI_o, b_ft, bI_1, bI_0, ↓kC_l, ↓kC_r, Option.toList_some, Option.toList_none, List.cons_append, List.nil_append, s1_0, s1_1i, s1_1r, s1_1w, s1_1n, s1_s, s2_0, s2_1i, s2_1r, s2_1w, s2_1n, s2_s, gI_sI, gI_sR, gI_sL, gI_sD, gR_sI, gR_sR, gR_sL, gR_sD, gL_sI, gL_sR, gL_sL, gL_sD, gD_sI, gD_sR, gD_sL, gD_sD, isK_sI, isK_sR, isK_sL, isK_sD, inL_sI, inL_sR, inL_sL, inL_sD, nx_sI, nx_sR, nx_sL, nx_sD, kd_sI, kd_sR, kd_sL, kd_sD, ln_sI, ln_sR, ln_sL, ln_sD, ↓reduceIte, c8_n, c8_1, c8_2, c8_3, c8_4, Nat.reduceAdd, k_s S, k_land S, k_nodes S, k_hear S, k_routes S, k_traffic S, k_market S, g_cnt S, r_land S, r_routes S, r_traffic S, r_market S, r_nodes S, r_hear S, r_rland S, r_tland S, r_troutes S, l_nodes S hi8, l_hear S hi8, r_node S hi8, r_queue S hi8, r_set S hi8, r_frames S hi8, r_bits S hi8, k_node S hi8, k_queue S hi8, k_frames S hi8, k_set S hi8, k_bits S hi8, ii_nat (lt31 hi8), q_checkNode _ S hi, hs]
      cases sus9 n α i <;> rfl
    exact e
  · refine (q_of14 Q S hi).trans ?_; rw [ca_lw V hn hi]; rfl
  · refine (q_of15 Q S hi).trans ?_; rw [ev 14 (by omega) (by omega)]; rfl
theorem vx_ofNode (A : AI n h) (V : CA n h α) (C : ∀ k, k < n → ∃ p r, α.1 k 12 = ii p ∧ α.1 k 13 = ii r ∧ p ≤ 62000 ∧ r ≤ 2000) (hr : okR cM sM h 1 6 = true) (x y : Int32) : ∃ rs h', (∀ Q, WP Gm j_S_ofNode 0 [some (.inr (.inl (some 1))), some (.inl x), some (.inl y), none] [] h Q = Q rs h') ∧ vr9 mA9 rs (ofn9 n α x y) ∧ CA n h' (ofn9 n α x y).2.2 := by
  have S := A.1
  have hn := n8 S
  unfold ofn9
  cases hb : isN n x with
  | false =>
    rw [if_pos rfl]
    refine ⟨.inr 2, _, fun Q => ?_, Or.inr ⟨2, by omega, rfl, rfl⟩, V.ex S (Ex.hN h kc_IndexOutOfBoundsException 0 6)⟩
    simp only [↓e_S_ofNode_0, ↓e_S_ofNode_1, ↓e_S_ofNode_2, ↓e_S_ofNode_5, ↓e_S_ofNode_6, ↓e_S_ofNode_9, ↓e_S_ofNode_12, ↓e_S_ofNode_13, ↓e_S_ofNode_14, ↓e_S_ofNode_15, ↓e_S_ofNode_16c0, ↓e_S_ofNode_16c1, ↓e_S_ofNode_16c2, ↓e_S_ofNode_16c3, ↓e_S_ofNode_16c4, ↓e_S_ofNode_16c5, ↓e_S_ofNode_16c6, ↓e_S_ofNode_16c7, ↓e_S_ofNode_16c8, ↓e_S_ofNode_16c9, ↓e_S_ofNode_16c10, ↓e_S_ofNode_16c11, ↓e_S_ofNode_16c12, ↓e_S_ofNode_16c13, ↓e_S_ofNode_16c14, ↓e_S_ofNode_16c15, ↓e_S_ofNode_96, ↓e_S_ofNode_97, ↓e_S_ofNode_100, ↓e_S_ofNode_101, ↓e_S_ofNode_102, ↓e_S_ofNode_105, ↓e_S_ofNode_106, ↓e_S_ofNode_107, ↓e_S_ofNode_110, ↓e_S_ofNode_111, ↓e_S_ofNode_112, ↓e_S_ofNode_115, ↓e_S_ofNode_118, ↓e_S_ofNode_119, ↓e_S_ofNode_122, ↓e_S_ofNode_123, ↓e_S_ofNode_124, ↓e_S_ofNode_125, ↓e_S_ofNode_128, ↓e_S_ofNode_131, ↓e_S_ofNode_132, ↓e_S_ofNode_133, ↓e_S_ofNode_136, ↓e_S_ofNode_137, ↓e_S_ofNode_138, ↓e_S_ofNode_141, ↓e_S_ofNode_142, ↓e_S_ofNode_143, ↓e_S_ofNode_146, ↓e_S_ofNode_147, ↓e_S_ofNode_148, ↓e_S_ofNode_151, ↓e_S_ofNode_152, ↓e_S_ofNode_153, ↓e_S_ofNode_156, ↓e_S_ofNode_157, ↓e_S_ofNode_158, ↓e_S_ofNode_161, ↓e_S_ofNode_162, ↓e_S_ofNode_163, ↓e_S_ofNode_166, ↓e_S_ofNode_167, ↓e_S_ofNode_168, ↓e_S_ofNode_171, ↓e_S_ofNode_172, ↓e_S_ofNode_173, ↓e_S_ofNode_176, ↓e_S_ofNode_177, ↓e_S_ofNode_180, ↓e_S_ofNode_183, ↓e_S_ofNode_184, ↓e_S_ofNode_187, ↓e_S_ofNode_188, ↓e_S_ofNode_189, ↓e_S_ofNode_190, ↓e_S_ofNode_193, ↓e_S_ofNode_194, ↓e_S_ofNode_197, ↓e_S_ofNode_198, ↓e_S_ofNode_199, ↓e_S_ofNode_202, ↓e_S_ofNode_203, not_true_eq_false, not_false_eq_true, one0, true_or, or_true, eq_self, bI_z, bI_nz, bI_o, b_ft, bI_1, bI_0, ↓kC_l, ↓kC_r, Option.toList_some, Option.toList_none, List.cons_append, List.nil_append, s1_0, s1_1i, s1_1r, s1_1w, s1_1n, s1_s, s2_0, s2_1i, s2_1r, s2_1w, s2_1n, s2_s, gI_sI, gI_sR, gI_sL, gI_sD, gR_sI, gR_sR, gR_sL, gR_sD, gL_sI, gL_sR, gL_sL, gL_sD, gD_sI, gD_sR, gD_sL, gD_sD, isK_sI, isK_sR, isK_sL, isK_sD, inL_sI, inL_sR, inL_sL, inL_sD, nx_sI, nx_sR, nx_sL, nx_sD, kd_sI, kd_sR, kd_sL, kd_sD, ln_sI, ln_sR, ln_sL, ln_sD, ↓reduceIte, c8_n, c8_1, c8_2, c8_3, c8_4, Nat.reduceAdd, k_s S, k_land S, k_nodes S, k_hear S, k_routes S, k_traffic S, k_market S, g_cnt S, r_land S, r_routes S, r_traffic S, r_market S, r_nodes S, r_hear S, r_rland S, r_tland S, r_troutes S, c_no9 S hr hb]
  | true =>
    obtain ⟨i, hi, rfl⟩ := isN_ex hn hb
    have hi8 : i < 8 := by omega
    rw [if_neg (by decide), tn_ii (show i < 2147483648 by omega)]
    cases e1 : (decide (0 ≤ y) && decide (y ≤ 15)) with
    | false =>
      rw [if_pos rfl]
      have ts : tsw 0 [96, 101, 106, 111, 124, 132, 137, 142, 147, 152, 157, 162, 167, 172, 189, 198] 203 y = 203 := tsw_out (m := 15) rfl (by omega) e1
      refine ⟨.inr 0, _, fun Q => ?_, Or.inr ⟨0, by omega, rfl, rfl⟩, V.ex S (Ex.hN h kc_IllegalArgumentException 0 6)⟩
      simp only [↓e_S_ofNode_0, ↓e_S_ofNode_1, ↓e_S_ofNode_2, ↓e_S_ofNode_5, ↓e_S_ofNode_6, ↓e_S_ofNode_9, ↓e_S_ofNode_12, ↓e_S_ofNode_13, ↓e_S_ofNode_14, ↓e_S_ofNode_15, ↓e_S_ofNode_16c0, ↓e_S_ofNode_16c1, ↓e_S_ofNode_16c2, ↓e_S_ofNode_16c3, ↓e_S_ofNode_16c4, ↓e_S_ofNode_16c5, ↓e_S_ofNode_16c6, ↓e_S_ofNode_16c7, ↓e_S_ofNode_16c8, ↓e_S_ofNode_16c9, ↓e_S_ofNode_16c10, ↓e_S_ofNode_16c11, ↓e_S_ofNode_16c12, ↓e_S_ofNode_16c13, ↓e_S_ofNode_16c14, ↓e_S_ofNode_16c15, ↓e_S_ofNode_96, ↓e_S_ofNode_97, ↓e_S_ofNode_100, ↓e_S_ofNode_101, ↓e_S_ofNode_102, ↓e_S_ofNode_105, ↓e_S_ofNode_106, ↓e_S_ofNode_107, ↓e_S_ofNode_110, ↓e_S_ofNode_111, ↓e_S_ofNode_112, ↓e_S_ofNode_115, ↓e_S_ofNode_118, ↓e_S_ofNode_119, ↓e_S_ofNode_122, ↓e_S_ofNode_123, ↓e_S_ofNode_124, ↓e_S_ofNode_125, ↓e_S_ofNode_128, ↓e_S_ofNode_131, ↓e_S_ofNode_132, ↓e_S_ofNode_133, ↓e_S_ofNode_136, ↓e_S_ofNode_137, ↓e_S_ofNode_138, ↓e_S_ofNode_141, ↓e_S_ofNode_142, ↓e_S_ofNode_143, ↓e_S_ofNode_146, ↓e_S_ofNode_147, ↓e_S_ofNode_148, ↓e_S_ofNode_151, ↓e_S_ofNode_152, ↓e_S_ofNode_153, ↓e_S_ofNode_156, ↓e_S_ofNode_157, ↓e_S_ofNode_158, ↓e_S_ofNode_161, ↓e_S_ofNode_162, ↓e_S_ofNode_163, ↓e_S_ofNode_166, ↓e_S_ofNode_167, ↓e_S_ofNode_168, ↓e_S_ofNode_171, ↓e_S_ofNode_172, ↓e_S_ofNode_173, ↓e_S_ofNode_176, ↓e_S_ofNode_177, ↓e_S_ofNode_180, ↓e_S_ofNode_183, ↓e_S_ofNode_184, ↓e_S_ofNode_187, ↓e_S_ofNode_188, ↓e_S_ofNode_189, ↓e_S_ofNode_190, ↓e_S_ofNode_193, ↓e_S_ofNode_194, ↓e_S_ofNode_197, ↓e_S_ofNode_198, ↓e_S_ofNode_199, ↓e_S_ofNode_202, ↓e_S_ofNode_203, not_true_eq_false, not_false_eq_true, one0, true_or, or_true, eq_self, bI_z, bI_nz, bI_o, b_ft, bI_1, bI_0, ↓kC_l, ↓kC_r, Option.toList_some, Option.toList_none, List.cons_append, List.nil_append, s1_0, s1_1i, s1_1r, s1_1w, s1_1n, s1_s, s2_0, s2_1i, s2_1r, s2_1w, s2_1n, s2_s, gI_sI, gI_sR, gI_sL, gI_sD, gR_sI, gR_sR, gR_sL, gR_sD, gL_sI, gL_sR, gL_sL, gL_sD, gD_sI, gD_sR, gD_sL, gD_sD, isK_sI, isK_sR, isK_sL, isK_sD, inL_sI, inL_sR, inL_sL, inL_sD, nx_sI, nx_sR, nx_sL, nx_sD, kd_sI, kd_sR, kd_sL, kd_sD, ln_sI, ln_sR, ln_sL, ln_sD, ↓reduceIte, c8_n, c8_1, c8_2, c8_3, c8_4, Nat.reduceAdd, k_s S, k_land S, k_nodes S, k_hear S, k_routes S, k_traffic S, k_market S, g_cnt S, r_land S, r_routes S, r_traffic S, r_market S, r_nodes S, r_hear S, r_rland S, r_tland S, r_troutes S, l_nodes S hi8, l_hear S hi8, r_node S hi8, r_queue S hi8, r_set S hi8, r_frames S hi8, r_bits S hi8, k_node S hi8, k_queue S hi8, k_frames S hi8, k_set S hi8, k_bits S hi8, ii_nat (lt31 hi8), q_checkNode _ S hi, e_S_ofNode_16, ts, hr]
    | true =>
      rw [if_neg (by decide)]
      obtain ⟨w, w1, rfl⟩ := i32_cases (b := 15) (by omega) e1
      rw [tn_ii (show w < 2147483648 by omega)]
      exact ⟨_, h, ca_of V S C hi w1, Or.inl ⟨rfl, rfl⟩, V⟩
end RQ2
