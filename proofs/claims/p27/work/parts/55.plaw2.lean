/-! plaw2: what the law asks: bits, covers, counts -/
theorem and01 (v : Int32) : v &&& 1 = 0 ∨ v &&& 1 = 1 := by
  have e : v &&& 1 = ii (v.toBitVec.toNat % 2) := by
    apply Int32.toBitVec_inj.mp
    apply BitVec.eq_of_toNat_eq
    rw [Int32.toBitVec_and, BitVec.toNat_and, show (1 : Int32).toBitVec.toNat = 2 ^ 1 - 1 by decide, Nat.and_two_pow_sub_one_eq_mod]
    show _ = (BitVec.ofNat 32 (v.toBitVec.toNat % 2)).toNat
    rw [BitVec.toNat_ofNat, Nat.mod_eq_of_lt (a := v.toBitVec.toNat % 2) (by omega)]
  have h2 : v.toBitVec.toNat % 2 = 0 ∨ v.toBitVec.toNat % 2 = 1 := by omega
  rcases h2 with h2 | h2
  · exact Or.inl (by rw [e, h2]; rfl)
  · exact Or.inr (by rw [e, h2]; rfl)
theorem bit_z (s : Int32) (i : Nat) : ((s >>> (ii i &&& 31)) &&& 1 = 0) = (tb s i = false) := by
  unfold tb
  by_cases hc : (s >>> (ii i &&& 31)) &&& 1 = 0
  · simp [hc]
  · simp [hc]
theorem bit_o (s : Int32) (i : Nat) : ((s >>> (ii i &&& 31)) &&& 1 = 1) = (tb s i = true) := by
  rcases and01 (s >>> (ii i &&& 31)) with hc | hc
  · have : tb s i = false := by rw [← bit_z, hc]
    rw [this, hc]
    simp
  · have : ¬ tb s i = false := by rw [← bit_z, hc]; decide
    rw [hc]
    cases hb : tb s i with
    | true => simp
    | false => exact absurd hb this
theorem mask8 : ∀ w, w < 256 → ∀ d, d < 8 → ii w &&& ((1 <<< (ii d &&& 31)) ^^^ (-1)) = ii (w - (if w.testBit d = true then 2 ^ d else 0)) ∧ (w - (if w.testBit d = true then 2 ^ d else 0)).testBit d = false := by decide +kernel
theorem lg_self (v : Int64) : lg_cmp v v = 0 := by
  unfold lg_cmp
  rw [if_neg (Int64.lt_irrefl), if_pos rfl]
section AK
variable {n B T : Nat} {h : Hp}
theorem cv0_up : ∀ (m k : Nat) (r : Int32), k + m ≤ 32 → upto (cvS h (ii 0)) m k r = r
  | 0, _, _, _ => rfl
  | m + 1, k, r, hk => by
    show upto (cvS h (ii 0)) m (k + 1) (cvS h (ii 0) k r) = r
    have : cvS h (ii 0) k r = r := by
      unfold cvS
      rw [show ii 0 = 0 from rfl, tb_0 (by omega), if_neg (by decide)]
    rw [this]
    exact cv0_up m (k + 1) r (by omega)
theorem cv0 (hn1 : 1 ≤ n) (hn : n ≤ 8) : cvF n h (ii 0) = false := by
  unfold cvF
  rw [cv0_up n 0 (ii 0) (by omega)]
  refine decide_eq_false ?_
  have hp := p256 hn
  have h2 : 2 ≤ 2 ^ n := by
    have : ∀ n, n ≤ 8 → 1 ≤ n → 2 ≤ 2 ^ n := by decide
    exact this n hn hn1
  rw [ii_inj (by omega) (by omega)]
  omega
theorem fc_up (hn1 : 1 ≤ n) (hn : n ≤ 8) : ∀ (m k : Nat) (b : Int32), k + m ≤ 2 ^ n - 1 → (∃ w, b = ii w ∧ 0 < w ∧ w < 2 ^ n) → ∃ w, upto (fcS n h) m k b = ii w ∧ 0 < w ∧ w < 2 ^ n
  | 0, _, _, _, q => q
  | m + 1, k, b, hk, q => by
    show ∃ w, upto (fcS n h) m (k + 1) (fcS n h k b) = ii w ∧ 0 < w ∧ w < 2 ^ n
    refine fc_up hn1 hn m (k + 1) _ (by omega) ?_
    unfold fcS
    by_cases hc : (decide (pcI (ii k) < pcI b) && cvF n h (ii k)) = true
    · rw [if_pos hc]
      refine ⟨k, rfl, ?_, by omega⟩
      rcases Nat.eq_zero_or_pos k with e | e
      · subst e
        rw [cv0 hn1 hn] at hc
        simp at hc
      · exact e
    · rw [if_neg hc]
      exact q
theorem fc_val (hn1 : 1 ≤ n) (hn : n ≤ 8) : ∃ w, fcF n h = ii w ∧ 0 < w ∧ w < 2 ^ n := by
  have h2 : 2 ≤ 2 ^ n := by
    have : ∀ n, n ≤ 8 → 1 ≤ n → 2 ≤ 2 ^ n := by decide
    exact this n hn hn1
  exact fc_up hn1 hn (2 ^ n - 1) 0 _ (by omega) ⟨2 ^ n - 1, rfl, by omega, by omega⟩
theorem cnt_low2 {f : Nat → Bool} {s : Nat} : ∀ {m : Nat}, (∀ k, s ≤ k → k < m → f k = false) → s ≤ m → cnt f m = cnt f s
  | 0, _, hm => by
    have : s = 0 := by omega
    subst this
    rfl
  | m + 1, h, hm => by
    by_cases e : s = m + 1
    · subst e; rfl
    · show cnt f m + _ = _
      rw [h m (by omega) (by omega), cnt_low2 (fun k h1 h2 => h k h1 (by omega)) (by omega)]
      rfl
theorem ak_inner (L : LV n B T h) {k s : Nat} (hk : k < n) (hs : gI h (5 + 9 * k) 14 = ii s) (hs5 : s ≤ 500) (nd x : Int32) (v : Int64) (w9 w10 : Option MV) (t : Nat) (Q : MRes → Hp → Prop) :
    WP Gm j_Law_isAsked 39 [some (.inr (.inl (some 1))), some (.inl (ii n)), some (.inl nd), some (.inl x), some (.inr (.inr (.inl v))), none, some (.inl (ii t)), some (.inl (ii k)), some (.inl (ii 0)), w9, w10] [] h Q =
    WP Gm j_Law_isAsked 79 [some (.inr (.inl (some 1))), some (.inl (ii n)), some (.inl nd), some (.inl x), some (.inr (.inr (.inl v))), none, some (.inl (ii (t + cnt (mb h k) s))), some (.inl (ii k)), some (.inl (ii s)), w9, w10] [] h Q := by
  have S := L.1.1.1
  have hks := k_s S
  have step := loop0 (fun j (a : Nat) => WP Gm j_Law_isAsked 39 [some (.inr (.inl (some 1))), some (.inl (ii n)), some (.inl nd), some (.inl x), some (.inr (.inr (.inl v))), none, some (.inl (ii a)), some (.inl (ii k)), some (.inl (ii j)), w9, w10] [] h Q) (fun j a => a + (if mb h k j = true then 1 else 0)) s
    (fun j a hj => by
      have hl : (ii s ≤ ii j) = False := lle_f (by omega) hj
      have hm := fun Q => q_delivered Q S hk hs hs5 hj
      have a0 : ii a + 0 = ii a := ii_add a 0
      rw [e_Law_isAsked_39]
      simp only [↓e_Law_isAsked_0, ↓e_Law_isAsked_1, ↓e_Law_isAsked_4, ↓e_Law_isAsked_6, ↓e_Law_isAsked_7, ↓e_Law_isAsked_10, ↓e_Law_isAsked_13, ↓e_Law_isAsked_14, ↓e_Law_isAsked_17, ↓e_Law_isAsked_18, ↓e_Law_isAsked_19, ↓e_Law_isAsked_22, ↓e_Law_isAsked_23, ↓e_Law_isAsked_24, ↓e_Law_isAsked_25, ↓e_Law_isAsked_27, ↓e_Law_isAsked_28, ↓e_Law_isAsked_30, ↓e_Law_isAsked_32, ↓e_Law_isAsked_33, ↓e_Law_isAsked_36, ↓e_Law_isAsked_37, ↓e_Law_isAsked_41, ↓e_Law_isAsked_42, ↓e_Law_isAsked_44, ↓e_Law_isAsked_46, ↓e_Law_isAsked_49, ↓e_Law_isAsked_52, ↓e_Law_isAsked_54, ↓e_Law_isAsked_55, ↓e_Law_isAsked_57, ↓e_Law_isAsked_59, ↓e_Law_isAsked_62, ↓e_Law_isAsked_65, ↓e_Law_isAsked_66, ↓e_Law_isAsked_69, ↓e_Law_isAsked_70, ↓e_Law_isAsked_71, ↓e_Law_isAsked_73, ↓e_Law_isAsked_76, ↓e_Law_isAsked_79, ↓e_Law_isAsked_81, ↓e_Law_isAsked_82, ↓e_Law_isAsked_85, ↓e_Law_isAsked_86, ↓e_Law_isAsked_88, ↓e_Law_isAsked_90, ↓e_Law_isAsked_93, ↓e_Law_isAsked_94, ↓e_Law_isAsked_95, ↓e_Law_isAsked_96, ↓e_Law_isAsked_97, ↓e_Law_isAsked_98, ↓e_Law_isAsked_101, ↓e_Law_isAsked_102, ↓e_Law_isAsked_105, ↓e_Law_isAsked_106, ↓e_Law_isAsked_107, ↓e_Law_isAsked_108, ↓e_Law_isAsked_110, ↓e_Law_isAsked_113, ↓e_Law_isAsked_115, ↓e_Law_isAsked_116, ↓e_Law_isAsked_117, ↓e_Law_isAsked_118, ↓e_Law_isAsked_119, ↓e_Law_isAsked_122, ↓e_Law_isAsked_123, ↓e_Law_isAsked_126, ↓e_Law_isAsked_127, ↓e_Law_isAsked_130, ↓e_Law_isAsked_131, ↓e_Law_isAsked_133, ↓e_Law_isAsked_135, ↓e_Law_isAsked_138, ↓e_Law_isAsked_139, ↓e_Law_isAsked_140, ↓e_Law_isAsked_141, ↓e_Law_isAsked_142, ↓e_Law_isAsked_143, ↓e_Law_isAsked_146, ↓e_Law_isAsked_147, ↓e_Law_isAsked_150, ↓e_Law_isAsked_151, ↓e_Law_isAsked_152, ↓e_Law_isAsked_154, ↓e_Law_isAsked_155, ↓e_Law_isAsked_158, ↓e_Law_isAsked_161, ↓e_Law_isAsked_162, ↓e_Law_isAsked_163, ↓e_Law_isAsked_165, ↓e_Law_isAsked_168, ↓e_Law_isAsked_171, ↓e_Law_isAsked_172, ↓e_Law_isAsked_175, ↓e_Law_isAsked_176, ↓e_Law_isAsked_179, ↓e_Law_isAsked_180, ↓e_Law_isAsked_181, ↓e_Law_isAsked_183, ↓e_Law_isAsked_184, ↓e_Law_isAsked_187, ↓e_Law_isAsked_188, ↓e_Law_isAsked_189, ↓e_Law_isAsked_191, ↓e_Law_isAsked_192, ↓e_Law_isAsked_195, ↓e_Law_isAsked_196, ↓e_Law_isAsked_199, ↓e_Law_isAsked_200, ↓e_Law_isAsked_201, ↓e_Law_isAsked_204, ↓e_Law_isAsked_207, ↓e_Law_isAsked_208, ↓e_Law_isAsked_209, ↓e_Law_isAsked_210, ↓e_Law_isAsked_211, ↓e_Law_isAsked_212, ↓e_Law_isAsked_213, ↓e_Law_isAsked_216, ↓e_Law_isAsked_217, ↓e_Law_isAsked_218, ↓e_Law_isAsked_219, ↓e_Law_isAsked_220, ↓e_Law_isAsked_221, ↓e_Law_isAsked_222, ↓e_Law_isAsked_224, ↓e_Law_isAsked_225, ↓e_Law_isAsked_227, ↓e_Law_isAsked_228, ↓e_Law_isAsked_231, ↓e_Law_isAsked_233, ↓e_Law_isAsked_235, ↓e_Law_isAsked_238, ↓e_Law_isAsked_240, ↓e_Law_isAsked_242, ↓e_Law_isAsked_243, ↓e_Law_isAsked_244, ↓e_Law_isAsked_245, ↓e_Law_isAsked_248, ↓e_Law_isAsked_249, ↓e_Law_isAsked_250, ↓e_Law_isAsked_252, ↓e_Law_isAsked_255, ↓e_Law_isAsked_258, ↓e_Law_isAsked_259, ↓e_Law_isAsked_260, ↓e_Law_isAsked_261, ↓e_Law_isAsked_263, ↓e_Law_isAsked_264, ↓e_Law_isAsked_266, ↓e_Law_isAsked_268, ↓e_Law_isAsked_270, ↓e_Law_isAsked_273, ↓e_Law_isAsked_275, ↓e_Law_isAsked_276, ↓e_Law_isAsked_278, ↓e_Law_isAsked_281, ↓e_Law_isAsked_282, ↓e_Law_isAsked_284, ↓e_Law_isAsked_287, ↓e_Law_isAsked_290, ↓e_Law_isAsked_291, ↓e_Law_isAsked_294, ↓e_Law_isAsked_296, ↓e_Law_isAsked_298, ↓e_Law_isAsked_299, ↓e_Law_isAsked_300, ↓e_Law_isAsked_303, ↓e_Law_isAsked_306, ↓e_Law_isAsked_308, ↓e_Law_isAsked_309, ↓e_Law_isAsked_310, ↓e_Law_isAsked_313, ↓e_Law_isAsked_316, ↓e_Law_isAsked_318, ↓e_Law_isAsked_321, ↓e_Law_isAsked_323, ↓e_Law_isAsked_324, ↓e_Law_isAsked_325, ↓e_Law_isAsked_326, ↓e_Law_isAsked_329, ↓e_Law_isAsked_330, ↓e_Law_isAsked_333, ↓e_Law_isAsked_335, ↓e_Law_isAsked_336, ↓e_Law_isAsked_339, ↓e_Law_isAsked_340, ↓e_Law_isAsked_343, ↓e_Law_isAsked_344, not_true_eq_false, not_false_eq_true, one0, true_or, or_true, eq_self, bI_z, bI_nz, bI_o, b_ft, bI_1, bI_0, ↓kC_l, ↓kC_r, Option.toList_some, Option.toList_none, List.cons_append, List.nil_append, s1_0, s1_1i, s1_1r, s1_1w, s1_1n, s1_s, s2_0, s2_1i, s2_1r, s2_1w, s2_1n, s2_s, gI_sI, gI_sR, gI_sL, gI_sD, gR_sI, gR_sR, gR_sL, gR_sD, gL_sI, gL_sR, gL_sL, gL_sD, gD_sI, gD_sR, gD_sL, gD_sD, isK_sI, isK_sR, isK_sL, isK_sD, inL_sI, inL_sR, inL_sL, inL_sD, nx_sI, nx_sR, nx_sL, nx_sD, kd_sI, kd_sR, kd_sL, kd_sD, ln_sI, ln_sR, ln_sL, ln_sD, ↓reduceIte, c8_n, c8_1, c8_2, c8_3, c8_4, Nat.reduceAdd, hks, q_of15 _ S hk, hs, hl, hm]
      cases mb h k j
      · simp only [↓e_Law_isAsked_0, ↓e_Law_isAsked_1, ↓e_Law_isAsked_4, ↓e_Law_isAsked_6, ↓e_Law_isAsked_7, ↓e_Law_isAsked_10, ↓e_Law_isAsked_13, ↓e_Law_isAsked_14, ↓e_Law_isAsked_17, ↓e_Law_isAsked_18, ↓e_Law_isAsked_19, ↓e_Law_isAsked_22, ↓e_Law_isAsked_23, ↓e_Law_isAsked_24, ↓e_Law_isAsked_25, ↓e_Law_isAsked_27, ↓e_Law_isAsked_28, ↓e_Law_isAsked_30, ↓e_Law_isAsked_32, ↓e_Law_isAsked_33, ↓e_Law_isAsked_36, ↓e_Law_isAsked_37, ↓e_Law_isAsked_41, ↓e_Law_isAsked_42, ↓e_Law_isAsked_44, ↓e_Law_isAsked_46, ↓e_Law_isAsked_49, ↓e_Law_isAsked_52, ↓e_Law_isAsked_54, ↓e_Law_isAsked_55, ↓e_Law_isAsked_57, ↓e_Law_isAsked_59, ↓e_Law_isAsked_62, ↓e_Law_isAsked_65, ↓e_Law_isAsked_66, ↓e_Law_isAsked_69, ↓e_Law_isAsked_70, ↓e_Law_isAsked_71, ↓e_Law_isAsked_73, ↓e_Law_isAsked_76, ↓e_Law_isAsked_79, ↓e_Law_isAsked_81, ↓e_Law_isAsked_82, ↓e_Law_isAsked_85, ↓e_Law_isAsked_86, ↓e_Law_isAsked_88, ↓e_Law_isAsked_90, ↓e_Law_isAsked_93, ↓e_Law_isAsked_94, ↓e_Law_isAsked_95, ↓e_Law_isAsked_96, ↓e_Law_isAsked_97, ↓e_Law_isAsked_98, ↓e_Law_isAsked_101, ↓e_Law_isAsked_102, ↓e_Law_isAsked_105, ↓e_Law_isAsked_106, ↓e_Law_isAsked_107, ↓e_Law_isAsked_108, ↓e_Law_isAsked_110, ↓e_Law_isAsked_113, ↓e_Law_isAsked_115, ↓e_Law_isAsked_116, ↓e_Law_isAsked_117, ↓e_Law_isAsked_118, ↓e_Law_isAsked_119, ↓e_Law_isAsked_122, ↓e_Law_isAsked_123, ↓e_Law_isAsked_126, ↓e_Law_isAsked_127, ↓e_Law_isAsked_130, ↓e_Law_isAsked_131, ↓e_Law_isAsked_133, ↓e_Law_isAsked_135, ↓e_Law_isAsked_138, ↓e_Law_isAsked_139, ↓e_Law_isAsked_140, ↓e_Law_isAsked_141, ↓e_Law_isAsked_142, ↓e_Law_isAsked_143, ↓e_Law_isAsked_146, ↓e_Law_isAsked_147, ↓e_Law_isAsked_150, ↓e_Law_isAsked_151, ↓e_Law_isAsked_152, ↓e_Law_isAsked_154, ↓e_Law_isAsked_155, ↓e_Law_isAsked_158, ↓e_Law_isAsked_161, ↓e_Law_isAsked_162, ↓e_Law_isAsked_163, ↓e_Law_isAsked_165, ↓e_Law_isAsked_168, ↓e_Law_isAsked_171, ↓e_Law_isAsked_172, ↓e_Law_isAsked_175, ↓e_Law_isAsked_176, ↓e_Law_isAsked_179, ↓e_Law_isAsked_180, ↓e_Law_isAsked_181, ↓e_Law_isAsked_183, ↓e_Law_isAsked_184, ↓e_Law_isAsked_187, ↓e_Law_isAsked_188, ↓e_Law_isAsked_189, ↓e_Law_isAsked_191, ↓e_Law_isAsked_192, ↓e_Law_isAsked_195, ↓e_Law_isAsked_196, ↓e_Law_isAsked_199, ↓e_Law_isAsked_200, ↓e_Law_isAsked_201, ↓e_Law_isAsked_204, ↓e_Law_isAsked_207, ↓e_Law_isAsked_208, ↓e_Law_isAsked_209, ↓e_Law_isAsked_210, ↓e_Law_isAsked_211, ↓e_Law_isAsked_212, ↓e_Law_isAsked_213, ↓e_Law_isAsked_216, ↓e_Law_isAsked_217, ↓e_Law_isAsked_218, ↓e_Law_isAsked_219, ↓e_Law_isAsked_220, ↓e_Law_isAsked_221, ↓e_Law_isAsked_222, ↓e_Law_isAsked_224, ↓e_Law_isAsked_225, ↓e_Law_isAsked_227, ↓e_Law_isAsked_228, ↓e_Law_isAsked_231, ↓e_Law_isAsked_233, ↓e_Law_isAsked_235, ↓e_Law_isAsked_238, ↓e_Law_isAsked_240, ↓e_Law_isAsked_242, ↓e_Law_isAsked_243, ↓e_Law_isAsked_244, ↓e_Law_isAsked_245, ↓e_Law_isAsked_248, ↓e_Law_isAsked_249, ↓e_Law_isAsked_250, ↓e_Law_isAsked_252, ↓e_Law_isAsked_255, ↓e_Law_isAsked_258, ↓e_Law_isAsked_259, ↓e_Law_isAsked_260, ↓e_Law_isAsked_261, ↓e_Law_isAsked_263, ↓e_Law_isAsked_264, ↓e_Law_isAsked_266, ↓e_Law_isAsked_268, ↓e_Law_isAsked_270, ↓e_Law_isAsked_273, ↓e_Law_isAsked_275, ↓e_Law_isAsked_276, ↓e_Law_isAsked_278, ↓e_Law_isAsked_281, ↓e_Law_isAsked_282, ↓e_Law_isAsked_284, ↓e_Law_isAsked_287, ↓e_Law_isAsked_290, ↓e_Law_isAsked_291, ↓e_Law_isAsked_294, ↓e_Law_isAsked_296, ↓e_Law_isAsked_298, ↓e_Law_isAsked_299, ↓e_Law_isAsked_300, ↓e_Law_isAsked_303, ↓e_Law_isAsked_306, ↓e_Law_isAsked_308, ↓e_Law_isAsked_309, ↓e_Law_isAsked_310, ↓e_Law_isAsked_313, ↓e_Law_isAsked_316, ↓e_Law_isAsked_318, ↓e_Law_isAsked_321, ↓e_Law_isAsked_323, ↓e_Law_isAsked_324, ↓e_Law_isAsked_325, ↓e_Law_isAsked_326, ↓e_Law_isAsked_329, ↓e_Law_isAsked_330, ↓e_Law_isAsked_333, ↓e_Law_isAsked_335, ↓e_Law_isAsked_336, ↓e_Law_isAsked_339, ↓e_Law_isAsked_340, ↓e_Law_isAsked_343, ↓e_Law_isAsked_344, not_true_eq_false, not_false_eq_true, one0, true_or, or_true, eq_self, bI_z, bI_nz, bI_o, b_ft, bI_1, bI_0, ↓kC_l, ↓kC_r, Option.toList_some, Option.toList_none, List.cons_append, List.nil_append, s1_0, s1_1i, s1_1r, s1_1w, s1_1n, s1_s, s2_0, s2_1i, s2_1r, s2_1w, s2_1n, s2_s, gI_sI, gI_sR, gI_sL, gI_sD, gR_sI, gR_sR, gR_sL, gR_sD, gL_sI, gL_sR, gL_sL, gL_sD, gD_sI, gD_sR, gD_sL, gD_sD, isK_sI, isK_sR, isK_sL, isK_sD, inL_sI, inL_sR, inL_sL, inL_sD, nx_sI, nx_sR, nx_sL, nx_sD, kd_sI, kd_sR, kd_sL, kd_sD, ln_sI, ln_sR, ln_sL, ln_sD, ↓reduceIte, c8_n, c8_1, c8_2, c8_3, c8_4, Nat.reduceAdd, a0, ii_succ, Bool.false_eq_true, Nat.add_zero]
      · simp only [↓e_Law_isAsked_0, ↓e_Law_isAsked_1, ↓e_Law_isAsked_4, ↓e_Law_isAsked_6, ↓e_Law_isAsked_7, ↓e_Law_isAsked_10, ↓e_Law_isAsked_13, ↓e_Law_isAsked_14, ↓e_Law_isAsked_17, ↓e_Law_isAsked_18, ↓e_Law_isAsked_19, ↓e_Law_isAsked_22, ↓e_Law_isAsked_23, ↓e_Law_isAsked_24, ↓e_Law_isAsked_25, ↓e_Law_isAsked_27, ↓e_Law_isAsked_28, ↓e_Law_isAsked_30, ↓e_Law_isAsked_32, ↓e_Law_isAsked_33, ↓e_Law_isAsked_36, ↓e_Law_isAsked_37, ↓e_Law_isAsked_41, ↓e_Law_isAsked_42, ↓e_Law_isAsked_44, ↓e_Law_isAsked_46, ↓e_Law_isAsked_49, ↓e_Law_isAsked_52, ↓e_Law_isAsked_54, ↓e_Law_isAsked_55, ↓e_Law_isAsked_57, ↓e_Law_isAsked_59, ↓e_Law_isAsked_62, ↓e_Law_isAsked_65, ↓e_Law_isAsked_66, ↓e_Law_isAsked_69, ↓e_Law_isAsked_70, ↓e_Law_isAsked_71, ↓e_Law_isAsked_73, ↓e_Law_isAsked_76, ↓e_Law_isAsked_79, ↓e_Law_isAsked_81, ↓e_Law_isAsked_82, ↓e_Law_isAsked_85, ↓e_Law_isAsked_86, ↓e_Law_isAsked_88, ↓e_Law_isAsked_90, ↓e_Law_isAsked_93, ↓e_Law_isAsked_94, ↓e_Law_isAsked_95, ↓e_Law_isAsked_96, ↓e_Law_isAsked_97, ↓e_Law_isAsked_98, ↓e_Law_isAsked_101, ↓e_Law_isAsked_102, ↓e_Law_isAsked_105, ↓e_Law_isAsked_106, ↓e_Law_isAsked_107, ↓e_Law_isAsked_108, ↓e_Law_isAsked_110, ↓e_Law_isAsked_113, ↓e_Law_isAsked_115, ↓e_Law_isAsked_116, ↓e_Law_isAsked_117, ↓e_Law_isAsked_118, ↓e_Law_isAsked_119, ↓e_Law_isAsked_122, ↓e_Law_isAsked_123, ↓e_Law_isAsked_126, ↓e_Law_isAsked_127, ↓e_Law_isAsked_130, ↓e_Law_isAsked_131, ↓e_Law_isAsked_133, ↓e_Law_isAsked_135, ↓e_Law_isAsked_138, ↓e_Law_isAsked_139, ↓e_Law_isAsked_140, ↓e_Law_isAsked_141, ↓e_Law_isAsked_142, ↓e_Law_isAsked_143, ↓e_Law_isAsked_146, ↓e_Law_isAsked_147, ↓e_Law_isAsked_150, ↓e_Law_isAsked_151, ↓e_Law_isAsked_152, ↓e_Law_isAsked_154, ↓e_Law_isAsked_155, ↓e_Law_isAsked_158, ↓e_Law_isAsked_161, ↓e_Law_isAsked_162, ↓e_Law_isAsked_163, ↓e_Law_isAsked_165, ↓e_Law_isAsked_168, ↓e_Law_isAsked_171, ↓e_Law_isAsked_172, ↓e_Law_isAsked_175, ↓e_Law_isAsked_176, ↓e_Law_isAsked_179, ↓e_Law_isAsked_180, ↓e_Law_isAsked_181, ↓e_Law_isAsked_183, ↓e_Law_isAsked_184, ↓e_Law_isAsked_187, ↓e_Law_isAsked_188, ↓e_Law_isAsked_189, ↓e_Law_isAsked_191, ↓e_Law_isAsked_192, ↓e_Law_isAsked_195, ↓e_Law_isAsked_196, ↓e_Law_isAsked_199, ↓e_Law_isAsked_200, ↓e_Law_isAsked_201, ↓e_Law_isAsked_204, ↓e_Law_isAsked_207, ↓e_Law_isAsked_208, ↓e_Law_isAsked_209, ↓e_Law_isAsked_210, ↓e_Law_isAsked_211, ↓e_Law_isAsked_212, ↓e_Law_isAsked_213, ↓e_Law_isAsked_216, ↓e_Law_isAsked_217, ↓e_Law_isAsked_218, ↓e_Law_isAsked_219, ↓e_Law_isAsked_220, ↓e_Law_isAsked_221, ↓e_Law_isAsked_222, ↓e_Law_isAsked_224, ↓e_Law_isAsked_225, ↓e_Law_isAsked_227, ↓e_Law_isAsked_228, ↓e_Law_isAsked_231, ↓e_Law_isAsked_233, ↓e_Law_isAsked_235, ↓e_Law_isAsked_238, ↓e_Law_isAsked_240, ↓e_Law_isAsked_242, ↓e_Law_isAsked_243, ↓e_Law_isAsked_244, ↓e_Law_isAsked_245, ↓e_Law_isAsked_248, ↓e_Law_isAsked_249, ↓e_Law_isAsked_250, ↓e_Law_isAsked_252, ↓e_Law_isAsked_255, ↓e_Law_isAsked_258, ↓e_Law_isAsked_259, ↓e_Law_isAsked_260, ↓e_Law_isAsked_261, ↓e_Law_isAsked_263, ↓e_Law_isAsked_264, ↓e_Law_isAsked_266, ↓e_Law_isAsked_268, ↓e_Law_isAsked_270, ↓e_Law_isAsked_273, ↓e_Law_isAsked_275, ↓e_Law_isAsked_276, ↓e_Law_isAsked_278, ↓e_Law_isAsked_281, ↓e_Law_isAsked_282, ↓e_Law_isAsked_284, ↓e_Law_isAsked_287, ↓e_Law_isAsked_290, ↓e_Law_isAsked_291, ↓e_Law_isAsked_294, ↓e_Law_isAsked_296, ↓e_Law_isAsked_298, ↓e_Law_isAsked_299, ↓e_Law_isAsked_300, ↓e_Law_isAsked_303, ↓e_Law_isAsked_306, ↓e_Law_isAsked_308, ↓e_Law_isAsked_309, ↓e_Law_isAsked_310, ↓e_Law_isAsked_313, ↓e_Law_isAsked_316, ↓e_Law_isAsked_318, ↓e_Law_isAsked_321, ↓e_Law_isAsked_323, ↓e_Law_isAsked_324, ↓e_Law_isAsked_325, ↓e_Law_isAsked_326, ↓e_Law_isAsked_329, ↓e_Law_isAsked_330, ↓e_Law_isAsked_333, ↓e_Law_isAsked_335, ↓e_Law_isAsked_336, ↓e_Law_isAsked_339, ↓e_Law_isAsked_340, ↓e_Law_isAsked_343, ↓e_Law_isAsked_344, not_true_eq_false, not_false_eq_true, one0, true_or, or_true, eq_self, bI_z, bI_nz, bI_o, b_ft, bI_1, bI_0, ↓kC_l, ↓kC_r, Option.toList_some, Option.toList_none, List.cons_append, List.nil_append, s1_0, s1_1i, s1_1r, s1_1w, s1_1n, s1_s, s2_0, s2_1i, s2_1r, s2_1w, s2_1n, s2_s, gI_sI, gI_sR, gI_sL, gI_sD, gR_sI, gR_sR, gR_sL, gR_sD, gL_sI, gL_sR, gL_sL, gL_sD, gD_sI, gD_sR, gD_sL, gD_sD, isK_sI, isK_sR, isK_sL, isK_sD, inL_sI, inL_sR, inL_sL, inL_sD, nx_sI, nx_sR, nx_sL, nx_sD, kd_sI, kd_sR, kd_sL, kd_sD, ln_sI, ln_sR, ln_sL, ln_sD, ↓reduceIte, c8_n, c8_1, c8_2, c8_3, c8_4, Nat.reduceAdd, ii_succ, Bool.true_eq_false]) s 0 t (by omega)
  have ecnt : ∀ m j a, upto (fun j a => a + (if mb h k j = true then 1 else 0)) m j a + cnt (mb h k) j = a + cnt (mb h k) (j + m) := by
    intro m
    induction m with
    | zero => intro j a; rfl
    | succ m ih =>
      intro j a
      have := ih (j + 1) (a + (if mb h k j = true then 1 else 0))
      have e : cnt (mb h k) (j + 1) = cnt (mb h k) j + (if mb h k j = true then 1 else 0) := rfl
      rw [e] at this
      rw [show j + (m + 1) = j + 1 + m by omega]
      show upto _ m (j + 1) (a + (if mb h k j = true then 1 else 0)) + _ = _
      omega
  have e2 : upto (fun j a => a + (if mb h k j = true then 1 else 0)) s 0 t = t + cnt (mb h k) s := by
    have := ecnt s 0 t
    rw [Nat.zero_add] at this
    exact this
  rw [e2] at step
  refine step.trans ?_
  rw [e_Law_isAsked_39]
  simp only [↓e_Law_isAsked_0, ↓e_Law_isAsked_1, ↓e_Law_isAsked_4, ↓e_Law_isAsked_6, ↓e_Law_isAsked_7, ↓e_Law_isAsked_10, ↓e_Law_isAsked_13, ↓e_Law_isAsked_14, ↓e_Law_isAsked_17, ↓e_Law_isAsked_18, ↓e_Law_isAsked_19, ↓e_Law_isAsked_22, ↓e_Law_isAsked_23, ↓e_Law_isAsked_24, ↓e_Law_isAsked_25, ↓e_Law_isAsked_27, ↓e_Law_isAsked_28, ↓e_Law_isAsked_30, ↓e_Law_isAsked_32, ↓e_Law_isAsked_33, ↓e_Law_isAsked_36, ↓e_Law_isAsked_37, ↓e_Law_isAsked_41, ↓e_Law_isAsked_42, ↓e_Law_isAsked_44, ↓e_Law_isAsked_46, ↓e_Law_isAsked_49, ↓e_Law_isAsked_52, ↓e_Law_isAsked_54, ↓e_Law_isAsked_55, ↓e_Law_isAsked_57, ↓e_Law_isAsked_59, ↓e_Law_isAsked_62, ↓e_Law_isAsked_65, ↓e_Law_isAsked_66, ↓e_Law_isAsked_69, ↓e_Law_isAsked_70, ↓e_Law_isAsked_71, ↓e_Law_isAsked_73, ↓e_Law_isAsked_76, ↓e_Law_isAsked_79, ↓e_Law_isAsked_81, ↓e_Law_isAsked_82, ↓e_Law_isAsked_85, ↓e_Law_isAsked_86, ↓e_Law_isAsked_88, ↓e_Law_isAsked_90, ↓e_Law_isAsked_93, ↓e_Law_isAsked_94, ↓e_Law_isAsked_95, ↓e_Law_isAsked_96, ↓e_Law_isAsked_97, ↓e_Law_isAsked_98, ↓e_Law_isAsked_101, ↓e_Law_isAsked_102, ↓e_Law_isAsked_105, ↓e_Law_isAsked_106, ↓e_Law_isAsked_107, ↓e_Law_isAsked_108, ↓e_Law_isAsked_110, ↓e_Law_isAsked_113, ↓e_Law_isAsked_115, ↓e_Law_isAsked_116, ↓e_Law_isAsked_117, ↓e_Law_isAsked_118, ↓e_Law_isAsked_119, ↓e_Law_isAsked_122, ↓e_Law_isAsked_123, ↓e_Law_isAsked_126, ↓e_Law_isAsked_127, ↓e_Law_isAsked_130, ↓e_Law_isAsked_131, ↓e_Law_isAsked_133, ↓e_Law_isAsked_135, ↓e_Law_isAsked_138, ↓e_Law_isAsked_139, ↓e_Law_isAsked_140, ↓e_Law_isAsked_141, ↓e_Law_isAsked_142, ↓e_Law_isAsked_143, ↓e_Law_isAsked_146, ↓e_Law_isAsked_147, ↓e_Law_isAsked_150, ↓e_Law_isAsked_151, ↓e_Law_isAsked_152, ↓e_Law_isAsked_154, ↓e_Law_isAsked_155, ↓e_Law_isAsked_158, ↓e_Law_isAsked_161, ↓e_Law_isAsked_162, ↓e_Law_isAsked_163, ↓e_Law_isAsked_165, ↓e_Law_isAsked_168, ↓e_Law_isAsked_171, ↓e_Law_isAsked_172, ↓e_Law_isAsked_175, ↓e_Law_isAsked_176, ↓e_Law_isAsked_179, ↓e_Law_isAsked_180, ↓e_Law_isAsked_181, ↓e_Law_isAsked_183, ↓e_Law_isAsked_184, ↓e_Law_isAsked_187, ↓e_Law_isAsked_188, ↓e_Law_isAsked_189, ↓e_Law_isAsked_191, ↓e_Law_isAsked_192, ↓e_Law_isAsked_195, ↓e_Law_isAsked_196, ↓e_Law_isAsked_199, ↓e_Law_isAsked_200, ↓e_Law_isAsked_201, ↓e_Law_isAsked_204, ↓e_Law_isAsked_207, ↓e_Law_isAsked_208, ↓e_Law_isAsked_209, ↓e_Law_isAsked_210, ↓e_Law_isAsked_211, ↓e_Law_isAsked_212, ↓e_Law_isAsked_213, ↓e_Law_isAsked_216, ↓e_Law_isAsked_217, ↓e_Law_isAsked_218, ↓e_Law_isAsked_219, ↓e_Law_isAsked_220, ↓e_Law_isAsked_221, ↓e_Law_isAsked_222, ↓e_Law_isAsked_224, ↓e_Law_isAsked_225, ↓e_Law_isAsked_227, ↓e_Law_isAsked_228, ↓e_Law_isAsked_231, ↓e_Law_isAsked_233, ↓e_Law_isAsked_235, ↓e_Law_isAsked_238, ↓e_Law_isAsked_240, ↓e_Law_isAsked_242, ↓e_Law_isAsked_243, ↓e_Law_isAsked_244, ↓e_Law_isAsked_245, ↓e_Law_isAsked_248, ↓e_Law_isAsked_249, ↓e_Law_isAsked_250, ↓e_Law_isAsked_252, ↓e_Law_isAsked_255, ↓e_Law_isAsked_258, ↓e_Law_isAsked_259, ↓e_Law_isAsked_260, ↓e_Law_isAsked_261, ↓e_Law_isAsked_263, ↓e_Law_isAsked_264, ↓e_Law_isAsked_266, ↓e_Law_isAsked_268, ↓e_Law_isAsked_270, ↓e_Law_isAsked_273, ↓e_Law_isAsked_275, ↓e_Law_isAsked_276, ↓e_Law_isAsked_278, ↓e_Law_isAsked_281, ↓e_Law_isAsked_282, ↓e_Law_isAsked_284, ↓e_Law_isAsked_287, ↓e_Law_isAsked_290, ↓e_Law_isAsked_291, ↓e_Law_isAsked_294, ↓e_Law_isAsked_296, ↓e_Law_isAsked_298, ↓e_Law_isAsked_299, ↓e_Law_isAsked_300, ↓e_Law_isAsked_303, ↓e_Law_isAsked_306, ↓e_Law_isAsked_308, ↓e_Law_isAsked_309, ↓e_Law_isAsked_310, ↓e_Law_isAsked_313, ↓e_Law_isAsked_316, ↓e_Law_isAsked_318, ↓e_Law_isAsked_321, ↓e_Law_isAsked_323, ↓e_Law_isAsked_324, ↓e_Law_isAsked_325, ↓e_Law_isAsked_326, ↓e_Law_isAsked_329, ↓e_Law_isAsked_330, ↓e_Law_isAsked_333, ↓e_Law_isAsked_335, ↓e_Law_isAsked_336, ↓e_Law_isAsked_339, ↓e_Law_isAsked_340, ↓e_Law_isAsked_343, ↓e_Law_isAsked_344, not_true_eq_false, not_false_eq_true, one0, true_or, or_true, eq_self, bI_z, bI_nz, bI_o, b_ft, bI_1, bI_0, ↓kC_l, ↓kC_r, Option.toList_some, Option.toList_none, List.cons_append, List.nil_append, s1_0, s1_1i, s1_1r, s1_1w, s1_1n, s1_s, s2_0, s2_1i, s2_1r, s2_1w, s2_1n, s2_s, gI_sI, gI_sR, gI_sL, gI_sD, gR_sI, gR_sR, gR_sL, gR_sD, gL_sI, gL_sR, gL_sL, gL_sD, gD_sI, gD_sR, gD_sL, gD_sD, isK_sI, isK_sR, isK_sL, isK_sD, inL_sI, inL_sR, inL_sL, inL_sD, nx_sI, nx_sR, nx_sL, nx_sD, kd_sI, kd_sR, kd_sL, kd_sD, ln_sI, ln_sR, ln_sL, ln_sD, ↓reduceIte, c8_n, c8_1, c8_2, c8_3, c8_4, Nat.reduceAdd, hks, q_of15 _ S hk, hs, lle_t (show s < 2147483648 by omega)]
end AK
