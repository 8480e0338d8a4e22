/-! padd: a bid is added; what holds of the market -/
/-- the prices of a set's bids together -/
def sP (p : Nat → Nat) (s : Nat) : Nat → Nat
  | 0 => 0
  | m + 1 => sP p s m + (if s.testBit m = true then p m else 0)
theorem sP_congr {p p' : Nat → Nat} {s s' : Nat} : ∀ {m : Nat}, (∀ i, i < m → p i = p' i ∧ s.testBit i = s'.testBit i) → sP p s m = sP p' s' m
  | 0, _ => rfl
  | m + 1, h => by
    show sP p s m + _ = sP p' s' m + _
    rw [sP_congr (fun i hi => h i (by omega)), (h m (by omega)).1, (h m (by omega)).2]
theorem sP_le {p : Nat → Nat} {s : Nat} : ∀ {m : Nat}, (∀ i, i < m → p i ≤ 999) → sP p s m ≤ 999 * m
  | 0, _ => Nat.le_refl _
  | m + 1, h => by
    have h1 := sP_le (s := s) (fun i hi => h i (by omega) : ∀ i, i < m → p i ≤ 999)
    have h2 := h m (by omega)
    show sP p s m + (if s.testBit m = true then p m else 0) ≤ _
    split <;> omega
theorem sP_low {p : Nat → Nat} {s c : Nat} (hs : s < 2 ^ c) : sP p s (c + 1) = sP p s c := by
  show sP p s c + (if s.testBit c = true then p c else 0) = _
  rw [Nat.testBit_lt_two_pow hs]
  simp
theorem sP_high {p : Nat → Nat} {k c : Nat} (hk : k < 2 ^ c) : sP p (k + 2 ^ c) (c + 1) = sP p k c + p c := by
  show sP p (k + 2 ^ c) c + (if (k + 2 ^ c).testBit c = true then p c else 0) = _
  rw [Nat.add_comm k, Nat.testBit_two_pow_add_eq, Nat.testBit_lt_two_pow hk]
  rw [sP_congr (p' := p) (s' := k) (fun i hi => ⟨rfl, Nat.testBit_two_pow_add_gt hi k⟩)]
  rfl
def pN (h : Hp) (i : Nat) : Nat := (gI h 117 i).toNatClampNeg
/-- what holds of the market with c bids -/
def MIv (c : Nat) (h : Hp) : Prop := (∀ i, i < c → ∃ b p, b < 5 ∧ 1 ≤ p ∧ p ≤ 999 ∧ gI h 116 i = ii b ∧ gI h 117 i = ii p) ∧ gI h 119 0 = 0 ∧ (∀ s, s < 2 ^ c → gI h 119 s = -1 ∨ gI h 119 s = ii (sP (pN h) s c)) ∧
  ∃ W, W < 2 ^ c ∧ gI h 115 6 = ii W ∧ gI h 115 7 = ii (sP (pN h) W c) ∧ ∀ b, b < 5 → ∃ u, gI h 120 b = ii u ∧ u ≤ sP (pN h) W c
theorem MIv.le {c : Nat} {h : Hp} (M : MIv c h) (s : Nat) : sP (pN h) s c ≤ 999 * c := by
  refine sP_le fun i hi => ?_
  obtain ⟨b, p, -, h2, h3, -, h5⟩ := M.1 i hi
  unfold pN
  rw [h5, ii_nat (by omega)]
  exact h3
def wA (c : Nat) : Nat → Nat → Prop := fun a k => (a = 115 ∧ 6 ≤ k ∧ k < 8) ∨ a = 120 ∨ a = 118 ∨ (a = 119 ∧ 2 ^ c ≤ k)
theorem p1024 {c : Nat} (hc : c < 10) : 2 ^ (c + 1) ≤ 1024 := by
  have : ∀ c, c < 10 → 2 ^ (c + 1) ≤ 1024 := by decide
  exact this c hc
theorem pw2 (c : Nat) : 2 ^ (c + 1) = 2 ^ c + 2 ^ c := by rw [Nat.pow_succ]; omega
theorem pw0 (c : Nat) : 1 ≤ 2 ^ c := Nat.one_le_two_pow
section ADD
variable {n c : Nat} {h : Hp}
theorem q_add (S : Str n h) (hc : gI h 115 5 = ii c) (hc10 : c < 10) (M : MIv c h) {b p : Nat} (hb : b < 5) (hp1 : 1 ≤ p) (hp : p ≤ 999) (x : Int32) :
    ∃ h', (∀ Q, WP Gm j_Market_add 0 [some (.inr (.inl (some 115))), some (.inl (ii b)), some (.inl x), some (.inl (ii p)), none, none, none, none, none] [] h Q = Q (.inl (some (.inl (ii c)))) h') ∧ Fr wM nW nW h h' ∧ gI h' 115 5 = ii (c + 1) ∧ MIv (c + 1) h' := by
  have h1024 := p1024 hc10
  have hpw := pw2 c
  have hp0 := pw0 c
  generalize hh0 : sI (sI (sI h 115 5 (ii (c + 1))) 116 c (ii b)) 117 c (ii p) = h0
  have S0 : Str n h0 := by rw [← hh0]; exact ((S.sI _ (by omega)).sI _ (by omega)).sI _ (by omega)
  have F0 : Fr wM nW nW h h0 := by rw [← hh0]; exact (((Fr.refl h).sI _ (by unfold wM; omega)).sI _ (by unfold wM; omega)).sI _ (by unfold wM; omega)
  have g119 : ∀ s, gI h0 119 s = gI h 119 s := fun s => by rw [← hh0, gI_sI, gI_sI, gI_sI, if_neg (by omega), if_neg (by omega), if_neg (by omega)]
  have gother : ∀ a k, a = 120 ∨ (a = 115 ∧ 6 ≤ k) → gI h0 a k = gI h a k := fun a k ha => by rw [← hh0, gI_sI, gI_sI, gI_sI, if_neg (by omega), if_neg (by omega), if_neg (by omega)]
  have g115 : gI h0 115 5 = ii (c + 1) := by rw [← hh0]; rfl
  have g117 : ∀ i, i < c → gI h0 117 i = gI h 117 i := fun i hi => by rw [← hh0, gI_sI, gI_sI, gI_sI, if_neg (by omega), if_neg (by omega), if_neg (by omega)]
  have g117c : gI h0 117 c = ii p := by rw [← hh0, gI_sI, if_pos ⟨rfl, rfl⟩]
  have g116 : ∀ i, i < c → gI h0 116 i = gI h 116 i := fun i hi => by rw [← hh0, gI_sI, gI_sI, gI_sI, if_neg (by omega), if_neg (by omega), if_neg (by omega)]
  have g116c : gI h0 116 c = ii b := by rw [← hh0, gI_sI, gI_sI, if_neg (by omega), if_pos ⟨rfl, rfl⟩]
  have hpc : pN h0 c = p := by unfold pN; rw [g117c, ii_nat (by omega)]
  have hpl : ∀ s, s < 2 ^ c → sP (pN h0) s (c + 1) = sP (pN h) s c := fun s hs => by
    rw [sP_low hs]
    exact sP_congr fun i hi => ⟨by unfold pN; rw [g117 i hi], rfl⟩
  have hph : ∀ k, k < 2 ^ c → sP (pN h0) (k + 2 ^ c) (c + 1) = sP (pN h) k c + p := fun k hk => by
    rw [sP_high hk, hpc, sP_congr (p' := pN h) (s' := k) fun i hi => ⟨by unfold pN; rw [g117 i hi], rfl⟩]
  have pr : ∀ i, i < c + 1 → ∃ b p, b < 5 ∧ 1 ≤ p ∧ p ≤ 999 ∧ gI h0 116 i = ii b ∧ gI h0 117 i = ii p := fun i hi => by
    by_cases e : i = c
    · subst e; exact ⟨b, p, hb, hp1, hp, g116c, g117c⟩
    · obtain ⟨b1, p1, q1, q2, q3, q4, q5⟩ := M.1 i (by omega)
      exact ⟨b1, p1, q1, q2, q3, by rw [g116 i (by omega)]; exact q4, by rw [g117 i (by omega)]; exact q5⟩
  have sle : ∀ s, sP (pN h0) s (c + 1) ≤ 999 * (c + 1) := fun s => sP_le fun i hi => by
    obtain ⟨b1, p1, -, q2, q3, -, q5⟩ := pr i hi
    unfold pN
    rw [q5, ii_nat (by omega)]
    exact q3
  generalize hnd : x ||| 1 <<< (6 + ii b &&& 31) = nd
  obtain ⟨⟨g, w⟩, e1, F1, z1, z2, W, hW1, hW2, hW3, hW4⟩ := loopR (fun Q k (a : Hp × Option MV) => WP Gm j_Market_add 51 [some (.inr (.inl (some 115))), some (.inl (ii b)), some (.inl x), some (.inl (ii p)), some (.inl (ii c)), some (.inl nd), some (.inl (ii (2 ^ c))), some (.inl (ii k)), a.2] [] a.1 Q)
    (fun k a => Fr (wA c) nW nW h0 a.1 ∧ (∀ s, s < 2 ^ c → gI a.1 119 s = gI h 119 s) ∧ (∀ s, 2 ^ c ≤ s → s < 2 ^ c + k → gI a.1 119 s = -1 ∨ gI a.1 119 s = ii (sP (pN h0) s (c + 1))) ∧
      ∃ W, W < 2 ^ (c + 1) ∧ gI a.1 115 6 = ii W ∧ gI a.1 115 7 = ii (sP (pN h0) W (c + 1)) ∧ ∀ b, b < 5 → ∃ u, gI a.1 120 b = ii u ∧ u ≤ sP (pN h0) W (c + 1)) (2 ^ c)
    (fun k a hk hI => by
      obtain ⟨g, w⟩ := a
      dsimp only at hI ⊢
      obtain ⟨I1, I2, I3, W, I4, I5, I6, I7⟩ := hI
      have Sg : Str n g := S0.fr I1 (by unfold wA; omega)
      have hk1 : k < 1024 := by omega
      have hs1 : k + 2 ^ c < 1024 := by omega
      have hor := or_low hk (show c < 31 by omega)
      have nk : (ii k).toNatClampNeg = k := ii_nat (by omega)
      have ns : (ii (k + 2 ^ c)).toNatClampNeg = k + 2 ^ c := ii_nat (by omega)
      have bad : ∃ g', (Fr (wA c) nW nW h0 g' ∧ (∀ s, s < 2 ^ c → gI g' 119 s = gI h 119 s) ∧ (∀ s, 2 ^ c ≤ s → s < 2 ^ c + (k + 1) → gI g' 119 s = -1 ∨ gI g' 119 s = ii (sP (pN h0) s (c + 1))) ∧ ∃ W, W < 2 ^ (c + 1) ∧ gI g' 115 6 = ii W ∧ gI g' 115 7 = ii (sP (pN h0) W (c + 1)) ∧ ∀ b, b < 5 → ∃ u, gI g' 120 b = ii u ∧ u ≤ sP (pN h0) W (c + 1)) ∧ g' = sI g 119 (k + 2 ^ c) (-1) := by
        refine ⟨_, ⟨I1.sI _ (by unfold wA; omega), fun s hs => ?_, fun s hs1 hs2 => ?_, W, I4, ?_, ?_, fun b hb => ?_⟩, rfl⟩
        · rw [gI_sI, if_neg (by omega)]; exact I2 s hs
        · rw [gI_sI]
          by_cases e : s = k + 2 ^ c
          · rw [if_pos ⟨rfl, e⟩]; exact Or.inl rfl
          · rw [if_neg (by omega)]; exact I3 s hs1 (by omega)
        · rw [gI_sI, if_neg (by omega)]; exact I5
        · rw [gI_sI, if_neg (by omega)]; exact I6
        · rw [gI_sI, if_neg (by omega)]; exact I7 b hb
      by_cases c1 : gI g 119 k = -1
      · obtain ⟨g', q1, q2⟩ := bad
        refine ⟨(g', some (.inl (ii (k + 2 ^ c)))), fun Q => ?_, q1⟩
        rw [q2, e_Market_add_51]
        simp only [↓e_Market_add_0, ↓e_Market_add_1, ↓e_Market_add_4, ↓e_Market_add_6, ↓e_Market_add_7, ↓e_Market_add_8, ↓e_Market_add_11, ↓e_Market_add_12, ↓e_Market_add_13, ↓e_Market_add_16, ↓e_Market_add_17, ↓e_Market_add_20, ↓e_Market_add_22, ↓e_Market_add_23, ↓e_Market_add_24, ↓e_Market_add_25, ↓e_Market_add_28, ↓e_Market_add_30, ↓e_Market_add_31, ↓e_Market_add_32, ↓e_Market_add_33, ↓e_Market_add_34, ↓e_Market_add_36, ↓e_Market_add_37, ↓e_Market_add_38, ↓e_Market_add_39, ↓e_Market_add_40, ↓e_Market_add_42, ↓e_Market_add_43, ↓e_Market_add_45, ↓e_Market_add_46, ↓e_Market_add_48, ↓e_Market_add_49, ↓e_Market_add_53, ↓e_Market_add_55, ↓e_Market_add_58, ↓e_Market_add_60, ↓e_Market_add_62, ↓e_Market_add_63, ↓e_Market_add_65, ↓e_Market_add_66, ↓e_Market_add_69, ↓e_Market_add_71, ↓e_Market_add_72, ↓e_Market_add_73, ↓e_Market_add_76, ↓e_Market_add_77, ↓e_Market_add_80, ↓e_Market_add_82, ↓e_Market_add_83, ↓e_Market_add_85, ↓e_Market_add_86, ↓e_Market_add_89, ↓e_Market_add_90, ↓e_Market_add_93, ↓e_Market_add_95, ↓e_Market_add_96, ↓e_Market_add_97, ↓e_Market_add_100, ↓e_Market_add_101, ↓e_Market_add_104, ↓e_Market_add_106, ↓e_Market_add_107, ↓e_Market_add_110, ↓e_Market_add_112, ↓e_Market_add_113, ↓e_Market_add_114, ↓e_Market_add_115, ↓e_Market_add_116, ↓e_Market_add_117, ↓e_Market_add_120, ↓e_Market_add_122, ↓e_Market_add_123, ↓e_Market_add_126, ↓e_Market_add_128, ↓e_Market_add_129, ↓e_Market_add_131, ↓e_Market_add_132, ↓e_Market_add_133, ↓e_Market_add_134, ↓e_Market_add_136, ↓e_Market_add_139, ↓e_Market_add_142, ↓e_Market_add_145, ↓e_Market_add_147, not_true_eq_false, not_false_eq_true, one0, true_or, or_true, eq_self, bI_z, bI_nz, bI_o, b_ft, bI_1, bI_0, ↓kC_l, ↓kC_r, Option.toList_some, Option.toList_none, List.cons_append, List.nil_append, s1_0, s1_1i, s1_1r, s1_1w, s1_1n, s1_s, s2_0, s2_1i, s2_1r, s2_1w, s2_1n, s2_s, gI_sI, gI_sR, gI_sL, gI_sD, gR_sI, gR_sR, gR_sL, gR_sD, gL_sI, gL_sR, gL_sL, gL_sD, gD_sI, gD_sR, gD_sL, gD_sD, isK_sI, isK_sR, isK_sL, isK_sD, inL_sI, inL_sR, inL_sL, inL_sD, nx_sI, nx_sR, nx_sL, nx_sD, kd_sI, kd_sR, kd_sL, kd_sD, ln_sI, ln_sR, ln_sL, ln_sD, ↓reduceIte, c8_n, c8_1, c8_2, c8_3, c8_4, Nat.reduceAdd, k_market Sg, k_bid Sg, k_pri Sg, k_tak Sg, k_wor Sg, k_wwo Sg, r_bid Sg, r_pri Sg, r_tak Sg, r_wor Sg, r_wwo Sg, lle_f (show 2 ^ c < 2147483648 by omega) hk, ii_succ, hor, nk, ns, l_wor Sg hk1, l_wor Sg hs1, l_tak Sg hk1, c1, (show ¬ (119 : Nat) = 0 by decide)]
      · by_cases c2 : gI g 118 k &&& nd = 0
        · have hw : gI g 119 k = ii (sP (pN h) k c) := by
            have := M.2.2.1 k hk
            rw [← I2 k hk] at this
            exact this.resolve_left c1
          have hsum : gI g 119 k + ii p = ii (sP (pN h0) (k + 2 ^ c) (c + 1)) := by
            rw [hw, hph k hk]
            unfold ii
            rw [Int32.ofNat_add]
          generalize hg2 : sI (sI g 119 (k + 2 ^ c) (gI g 119 k + ii p)) 118 (k + 2 ^ c) (gI g 118 k ||| nd) = g2
          have S2 : Str n g2 := by rw [← hg2]; exact (Sg.sI _ (by omega)).sI _ (by omega)
          have F2 : Fr (wA c) nW nW h0 g2 := by rw [← hg2]; exact (I1.sI _ (by unfold wA; omega)).sI _ (by unfold wA; omega)
          obtain ⟨g3, r1, r2, r3, r4, r5⟩ := q_weigh S2 hs1
          have w2 : gI g2 119 (k + 2 ^ c) = ii (sP (pN h0) (k + 2 ^ c) (c + 1)) := by rw [← hg2, gI_sI, if_neg (by omega), gI_sI, if_pos ⟨rfl, rfl⟩]; exact hsum
          have m2 : gI g2 115 7 = ii (sP (pN h0) W (c + 1)) := by rw [← hg2, gI_sI, if_neg (by omega), gI_sI, if_neg (by omega)]; exact I6
          have v2 : gI g2 115 6 = ii W := by rw [← hg2, gI_sI, if_neg (by omega), gI_sI, if_neg (by omega)]; exact I5
          have x2 : ∀ b, gI g2 120 b = gI g 120 b := fun b => by rw [← hg2, gI_sI, if_neg (by omega), gI_sI, if_neg (by omega)]
          have ltw : (gI g2 115 7 < gI g2 119 (k + 2 ^ c)) = (sP (pN h0) W (c + 1) < sP (pN h0) (k + 2 ^ c) (c + 1)) := by
            have := sle W
            have := sle (k + 2 ^ c)
            rw [w2, m2, ii_lt (by omega) (by omega)]
          simp only [ltw] at r3 r4
          rw [w2] at r3 r5
          rw [m2] at r3
          rw [v2] at r4
          refine ⟨(g3, some (.inl (ii (k + 2 ^ c)))), fun Q => ?_, F2.trans (r2.mono (fun a j q => by unfold wG at q; unfold wA; omega) (fun _ _ q => q) (fun _ _ q => q)), fun s hs => ?_, fun s hs1 hs2 => ?_, ?_⟩
          · rw [e_Market_add_51]
            simp only [↓e_Market_add_0, ↓e_Market_add_1, ↓e_Market_add_4, ↓e_Market_add_6, ↓e_Market_add_7, ↓e_Market_add_8, ↓e_Market_add_11, ↓e_Market_add_12, ↓e_Market_add_13, ↓e_Market_add_16, ↓e_Market_add_17, ↓e_Market_add_20, ↓e_Market_add_22, ↓e_Market_add_23, ↓e_Market_add_24, ↓e_Market_add_25, ↓e_Market_add_28, ↓e_Market_add_30, ↓e_Market_add_31, ↓e_Market_add_32, ↓e_Market_add_33, ↓e_Market_add_34, ↓e_Market_add_36, ↓e_Market_add_37, ↓e_Market_add_38, ↓e_Market_add_39, ↓e_Market_add_40, ↓e_Market_add_42, ↓e_Market_add_43, ↓e_Market_add_45, ↓e_Market_add_46, ↓e_Market_add_48, ↓e_Market_add_49, ↓e_Market_add_53, ↓e_Market_add_55, ↓e_Market_add_58, ↓e_Market_add_60, ↓e_Market_add_62, ↓e_Market_add_63, ↓e_Market_add_65, ↓e_Market_add_66, ↓e_Market_add_69, ↓e_Market_add_71, ↓e_Market_add_72, ↓e_Market_add_73, ↓e_Market_add_76, ↓e_Market_add_77, ↓e_Market_add_80, ↓e_Market_add_82, ↓e_Market_add_83, ↓e_Market_add_85, ↓e_Market_add_86, ↓e_Market_add_89, ↓e_Market_add_90, ↓e_Market_add_93, ↓e_Market_add_95, ↓e_Market_add_96, ↓e_Market_add_97, ↓e_Market_add_100, ↓e_Market_add_101, ↓e_Market_add_104, ↓e_Market_add_106, ↓e_Market_add_107, ↓e_Market_add_110, ↓e_Market_add_112, ↓e_Market_add_113, ↓e_Market_add_114, ↓e_Market_add_115, ↓e_Market_add_116, ↓e_Market_add_117, ↓e_Market_add_120, ↓e_Market_add_122, ↓e_Market_add_123, ↓e_Market_add_126, ↓e_Market_add_128, ↓e_Market_add_129, ↓e_Market_add_131, ↓e_Market_add_132, ↓e_Market_add_133, ↓e_Market_add_134, ↓e_Market_add_136, ↓e_Market_add_139, ↓e_Market_add_142, ↓e_Market_add_145, ↓e_Market_add_147, not_true_eq_false, not_false_eq_true, one0, true_or, or_true, eq_self, bI_z, bI_nz, bI_o, b_ft, bI_1, bI_0, ↓kC_l, ↓kC_r, Option.toList_some, Option.toList_none, List.cons_append, List.nil_append, s1_0, s1_1i, s1_1r, s1_1w, s1_1n, s1_s, s2_0, s2_1i, s2_1r, s2_1w, s2_1n, s2_s, gI_sI, gI_sR, gI_sL, gI_sD, gR_sI, gR_sR, gR_sL, gR_sD, gL_sI, gL_sR, gL_sL, gL_sD, gD_sI, gD_sR, gD_sL, gD_sD, isK_sI, isK_sR, isK_sL, isK_sD, inL_sI, inL_sR, inL_sL, inL_sD, nx_sI, nx_sR, nx_sL, nx_sD, kd_sI, kd_sR, kd_sL, kd_sD, ln_sI, ln_sR, ln_sL, ln_sD, ↓reduceIte, c8_n, c8_1, c8_2, c8_3, c8_4, Nat.reduceAdd, k_market Sg, k_bid Sg, k_pri Sg, k_tak Sg, k_wor Sg, k_wwo Sg, r_bid Sg, r_pri Sg, r_tak Sg, r_wor Sg, r_wwo Sg, lle_f (show 2 ^ c < 2147483648 by omega) hk, ii_succ, hor, nk, ns, l_wor Sg hk1, l_wor Sg hs1, l_tak Sg hk1, l_tak Sg hs1, c1, c2, (show ¬ (119 : Nat) = 0 by decide), (show ¬ (118 : Nat) = 0 by decide), (show ¬ (118 : Nat) = 119 by decide), false_and, hg2, k_market S2, r1]
          · rw [r2.1 119 s (by unfold wG; omega), ← hg2, gI_sI, if_neg (by omega), gI_sI, if_neg (by omega)]
            exact I2 s hs
          · rw [r2.1 119 s (by unfold wG; omega)]
            by_cases e : s = k + 2 ^ c
            · subst e; exact Or.inr w2
            · rw [← hg2, gI_sI, if_neg (by omega), gI_sI, if_neg (by omega)]
              exact I3 s hs1 (by omega)
          · by_cases hlt : sP (pN h0) W (c + 1) < sP (pN h0) (k + 2 ^ c) (c + 1)
            · rw [if_pos hlt] at r3 r4
              refine ⟨k + 2 ^ c, by omega, r4, r3, fun b hb => ?_⟩
              rcases r5 b hb with q | q
              · obtain ⟨u, q1, q2⟩ := I7 b hb
                exact ⟨u, by rw [q, x2]; exact q1, by omega⟩
              · exact ⟨_, q, Nat.le_refl _⟩
            · rw [if_neg hlt] at r3 r4
              refine ⟨W, I4, r4, r3, fun b hb => ?_⟩
              rcases r5 b hb with q | q
              · obtain ⟨u, q1, q2⟩ := I7 b hb
                exact ⟨u, by rw [q, x2]; exact q1, q2⟩
              · exact ⟨_, q, by omega⟩
        · obtain ⟨g', q1, q2⟩ := bad
          refine ⟨(g', some (.inl (ii (k + 2 ^ c)))), fun Q => ?_, q1⟩
          rw [q2, e_Market_add_51]
          simp only [↓e_Market_add_0, ↓e_Market_add_1, ↓e_Market_add_4, ↓e_Market_add_6, ↓e_Market_add_7, ↓e_Market_add_8, ↓e_Market_add_11, ↓e_Market_add_12, ↓e_Market_add_13, ↓e_Market_add_16, ↓e_Market_add_17, ↓e_Market_add_20, ↓e_Market_add_22, ↓e_Market_add_23, ↓e_Market_add_24, ↓e_Market_add_25, ↓e_Market_add_28, ↓e_Market_add_30, ↓e_Market_add_31, ↓e_Market_add_32, ↓e_Market_add_33, ↓e_Market_add_34, ↓e_Market_add_36, ↓e_Market_add_37, ↓e_Market_add_38, ↓e_Market_add_39, ↓e_Market_add_40, ↓e_Market_add_42, ↓e_Market_add_43, ↓e_Market_add_45, ↓e_Market_add_46, ↓e_Market_add_48, ↓e_Market_add_49, ↓e_Market_add_53, ↓e_Market_add_55, ↓e_Market_add_58, ↓e_Market_add_60, ↓e_Market_add_62, ↓e_Market_add_63, ↓e_Market_add_65, ↓e_Market_add_66, ↓e_Market_add_69, ↓e_Market_add_71, ↓e_Market_add_72, ↓e_Market_add_73, ↓e_Market_add_76, ↓e_Market_add_77, ↓e_Market_add_80, ↓e_Market_add_82, ↓e_Market_add_83, ↓e_Market_add_85, ↓e_Market_add_86, ↓e_Market_add_89, ↓e_Market_add_90, ↓e_Market_add_93, ↓e_Market_add_95, ↓e_Market_add_96, ↓e_Market_add_97, ↓e_Market_add_100, ↓e_Market_add_101, ↓e_Market_add_104, ↓e_Market_add_106, ↓e_Market_add_107, ↓e_Market_add_110, ↓e_Market_add_112, ↓e_Market_add_113, ↓e_Market_add_114, ↓e_Market_add_115, ↓e_Market_add_116, ↓e_Market_add_117, ↓e_Market_add_120, ↓e_Market_add_122, ↓e_Market_add_123, ↓e_Market_add_126, ↓e_Market_add_128, ↓e_Market_add_129, ↓e_Market_add_131, ↓e_Market_add_132, ↓e_Market_add_133, ↓e_Market_add_134, ↓e_Market_add_136, ↓e_Market_add_139, ↓e_Market_add_142, ↓e_Market_add_145, ↓e_Market_add_147, not_true_eq_false, not_false_eq_true, one0, true_or, or_true, eq_self, bI_z, bI_nz, bI_o, b_ft, bI_1, bI_0, ↓kC_l, ↓kC_r, Option.toList_some, Option.toList_none, List.cons_append, List.nil_append, s1_0, s1_1i, s1_1r, s1_1w, s1_1n, s1_s, s2_0, s2_1i, s2_1r, s2_1w, s2_1n, s2_s, gI_sI, gI_sR, gI_sL, gI_sD, gR_sI, gR_sR, gR_sL, gR_sD, gL_sI, gL_sR, gL_sL, gL_sD, gD_sI, gD_sR, gD_sL, gD_sD, isK_sI, isK_sR, isK_sL, isK_sD, inL_sI, inL_sR, inL_sL, inL_sD, nx_sI, nx_sR, nx_sL, nx_sD, kd_sI, kd_sR, kd_sL, kd_sD, ln_sI, ln_sR, ln_sL, ln_sD, ↓reduceIte, c8_n, c8_1, c8_2, c8_3, c8_4, Nat.reduceAdd, k_market Sg, k_bid Sg, k_pri Sg, k_tak Sg, k_wor Sg, k_wwo Sg, r_bid Sg, r_pri Sg, r_tak Sg, r_wor Sg, r_wwo Sg, lle_f (show 2 ^ c < 2147483648 by omega) hk, ii_succ, hor, nk, ns, l_wor Sg hk1, l_wor Sg hs1, l_tak Sg hk1, c1, c2, (show ¬ (119 : Nat) = 0 by decide)]) (2 ^ c) 0 (h0, none) (by omega)
    (by
      refine ⟨Fr.refl h0, fun s _ => g119 s, fun s q1 q2 => by omega, ?_⟩
      obtain ⟨W, q1, q2, q3, q4⟩ := M.2.2.2
      refine ⟨W, by omega, by rw [gother 115 6 (by omega)]; exact q2, by rw [gother 115 7 (by omega), hpl W q1]; exact q3, fun b hb => ?_⟩
      obtain ⟨u, r1, r2⟩ := q4 b hb
      exact ⟨u, by rw [gother 120 b (by omega)]; exact r1, by rw [hpl W q1]; exact r2⟩)
  dsimp only at e1 F1 z1 z2 hW2 hW3 hW4
  have S1 : Str n g := S0.fr F1 (by unfold wA; omega)
  have pg : pN g = pN h0 := by funext i; unfold pN; rw [F1.1 117 i (by unfold wA; omega)]
  refine ⟨g, fun Q => ?_, F0.trans (F1.mono (fun a k q => by unfold wA at q; unfold wM; omega) (fun _ _ q => q) (fun _ _ q => q)), by rw [F1.1 115 5 (by unfold wA; omega)]; exact g115, ?_⟩
  · have hbit : (1 <<< (ii c &&& 31) : Int32) = ii (2 ^ c) := bitN_eq c (by omega)
    simp only [↓e_Market_add_0, ↓e_Market_add_1, ↓e_Market_add_4, ↓e_Market_add_6, ↓e_Market_add_7, ↓e_Market_add_8, ↓e_Market_add_11, ↓e_Market_add_12, ↓e_Market_add_13, ↓e_Market_add_16, ↓e_Market_add_17, ↓e_Market_add_20, ↓e_Market_add_22, ↓e_Market_add_23, ↓e_Market_add_24, ↓e_Market_add_25, ↓e_Market_add_28, ↓e_Market_add_30, ↓e_Market_add_31, ↓e_Market_add_32, ↓e_Market_add_33, ↓e_Market_add_34, ↓e_Market_add_36, ↓e_Market_add_37, ↓e_Market_add_38, ↓e_Market_add_39, ↓e_Market_add_40, ↓e_Market_add_42, ↓e_Market_add_43, ↓e_Market_add_45, ↓e_Market_add_46, ↓e_Market_add_48, ↓e_Market_add_49, ↓e_Market_add_53, ↓e_Market_add_55, ↓e_Market_add_58, ↓e_Market_add_60, ↓e_Market_add_62, ↓e_Market_add_63, ↓e_Market_add_65, ↓e_Market_add_66, ↓e_Market_add_69, ↓e_Market_add_71, ↓e_Market_add_72, ↓e_Market_add_73, ↓e_Market_add_76, ↓e_Market_add_77, ↓e_Market_add_80, ↓e_Market_add_82, ↓e_Market_add_83, ↓e_Market_add_85, ↓e_Market_add_86, ↓e_Market_add_89, ↓e_Market_add_90, ↓e_Market_add_93, ↓e_Market_add_95, ↓e_Market_add_96, ↓e_Market_add_97, ↓e_Market_add_100, ↓e_Market_add_101, ↓e_Market_add_104, ↓e_Market_add_106, ↓e_Market_add_107, ↓e_Market_add_110, ↓e_Market_add_112, ↓e_Market_add_113, ↓e_Market_add_114, ↓e_Market_add_115, ↓e_Market_add_116, ↓e_Market_add_117, ↓e_Market_add_120, ↓e_Market_add_122, ↓e_Market_add_123, ↓e_Market_add_126, ↓e_Market_add_128, ↓e_Market_add_129, ↓e_Market_add_131, ↓e_Market_add_132, ↓e_Market_add_133, ↓e_Market_add_134, ↓e_Market_add_136, ↓e_Market_add_139, ↓e_Market_add_142, ↓e_Market_add_145, ↓e_Market_add_147, not_true_eq_false, not_false_eq_true, one0, true_or, or_true, eq_self, bI_z, bI_nz, bI_o, b_ft, bI_1, bI_0, ↓kC_l, ↓kC_r, Option.toList_some, Option.toList_none, List.cons_append, List.nil_append, s1_0, s1_1i, s1_1r, s1_1w, s1_1n, s1_s, s2_0, s2_1i, s2_1r, s2_1w, s2_1n, s2_s, gI_sI, gI_sR, gI_sL, gI_sD, gR_sI, gR_sR, gR_sL, gR_sD, gL_sI, gL_sR, gL_sL, gL_sD, gD_sI, gD_sR, gD_sL, gD_sD, isK_sI, isK_sR, isK_sL, isK_sD, inL_sI, inL_sR, inL_sL, inL_sD, nx_sI, nx_sR, nx_sL, nx_sD, kd_sI, kd_sR, kd_sL, kd_sD, ln_sI, ln_sR, ln_sL, ln_sD, ↓reduceIte, c8_n, c8_1, c8_2, c8_3, c8_4, Nat.reduceAdd, k_market S, k_bid S, k_pri S, k_tak S, k_wor S, k_wwo S, r_bid S, r_pri S, r_tak S, r_wor S, r_wwo S, hc, ii_succ, l_bid S hc10, l_pri S hc10, ii_nat (show c < 2147483648 by omega), (show ¬ (116 : Nat) = 0 by decide), (show ¬ (117 : Nat) = 0 by decide), hh0, hnd, hbit]
    refine (e1 Q).trans ?_
    rw [e_Market_add_51]
    simp only [↓e_Market_add_0, ↓e_Market_add_1, ↓e_Market_add_4, ↓e_Market_add_6, ↓e_Market_add_7, ↓e_Market_add_8, ↓e_Market_add_11, ↓e_Market_add_12, ↓e_Market_add_13, ↓e_Market_add_16, ↓e_Market_add_17, ↓e_Market_add_20, ↓e_Market_add_22, ↓e_Market_add_23, ↓e_Market_add_24, ↓e_Market_add_25, ↓e_Market_add_28, ↓e_Market_add_30, ↓e_Market_add_31, ↓e_Market_add_32, ↓e_Market_add_33, ↓e_Market_add_34, ↓e_Market_add_36, ↓e_Market_add_37, ↓e_Market_add_38, ↓e_Market_add_39, ↓e_Market_add_40, ↓e_Market_add_42, ↓e_Market_add_43, ↓e_Market_add_45, ↓e_Market_add_46, ↓e_Market_add_48, ↓e_Market_add_49, ↓e_Market_add_53, ↓e_Market_add_55, ↓e_Market_add_58, ↓e_Market_add_60, ↓e_Market_add_62, ↓e_Market_add_63, ↓e_Market_add_65, ↓e_Market_add_66, ↓e_Market_add_69, ↓e_Market_add_71, ↓e_Market_add_72, ↓e_Market_add_73, ↓e_Market_add_76, ↓e_Market_add_77, ↓e_Market_add_80, ↓e_Market_add_82, ↓e_Market_add_83, ↓e_Market_add_85, ↓e_Market_add_86, ↓e_Market_add_89, ↓e_Market_add_90, ↓e_Market_add_93, ↓e_Market_add_95, ↓e_Market_add_96, ↓e_Market_add_97, ↓e_Market_add_100, ↓e_Market_add_101, ↓e_Market_add_104, ↓e_Market_add_106, ↓e_Market_add_107, ↓e_Market_add_110, ↓e_Market_add_112, ↓e_Market_add_113, ↓e_Market_add_114, ↓e_Market_add_115, ↓e_Market_add_116, ↓e_Market_add_117, ↓e_Market_add_120, ↓e_Market_add_122, ↓e_Market_add_123, ↓e_Market_add_126, ↓e_Market_add_128, ↓e_Market_add_129, ↓e_Market_add_131, ↓e_Market_add_132, ↓e_Market_add_133, ↓e_Market_add_134, ↓e_Market_add_136, ↓e_Market_add_139, ↓e_Market_add_142, ↓e_Market_add_145, ↓e_Market_add_147, not_true_eq_false, not_false_eq_true, one0, true_or, or_true, eq_self, bI_z, bI_nz, bI_o, b_ft, bI_1, bI_0, ↓kC_l, ↓kC_r, Option.toList_some, Option.toList_none, List.cons_append, List.nil_append, s1_0, s1_1i, s1_1r, s1_1w, s1_1n, s1_s, s2_0, s2_1i, s2_1r, s2_1w, s2_1n, s2_s, gI_sI, gI_sR, gI_sL, gI_sD, gR_sI, gR_sR, gR_sL, gR_sD, gL_sI, gL_sR, gL_sL, gL_sD, gD_sI, gD_sR, gD_sL, gD_sD, isK_sI, isK_sR, isK_sL, isK_sD, inL_sI, inL_sR, inL_sL, inL_sD, nx_sI, nx_sR, nx_sL, nx_sD, kd_sI, kd_sR, kd_sL, kd_sD, ln_sI, ln_sR, ln_sL, ln_sD, ↓reduceIte, c8_n, c8_1, c8_2, c8_3, c8_4, Nat.reduceAdd, k_market S1, k_bid S1, k_pri S1, k_tak S1, k_wor S1, k_wwo S1, r_bid S1, r_pri S1, r_tak S1, r_wor S1, r_wwo S1, lle_t (show 2 ^ c < 2147483648 by omega)]
  · refine ⟨fun i hi => ?_, ?_, fun s hs => ?_, W, hW1, hW2, ?_, fun b hb => ?_⟩
    · obtain ⟨b1, p1, q1, q2, q3, q4, q5⟩ := pr i hi
      exact ⟨b1, p1, q1, q2, q3, by rw [F1.1 116 i (by unfold wA; omega)]; exact q4, by rw [F1.1 117 i (by unfold wA; omega)]; exact q5⟩
    · rw [z1 0 (by omega)]; exact M.2.1
    · rw [pg]
      by_cases hs1 : s < 2 ^ c
      · rw [z1 s hs1, hpl s hs1]; exact M.2.2.1 s hs1
      · exact z2 s (by omega) (by omega)
    · rw [pg]; exact hW3
    · rw [pg]; exact hW4 b hb
end ADD
