/-! plawb: the law's calls -/
section LWB
variable {τ : Nat → Nat} {n n2 A c B m T L : Nat} {K : Int32} {p b9 x9 p9 : Nat → Nat} {q : Nat} {h h1 h2 : Hp}
/-- between two calls, T of them done -/
def LI (L T : Nat) (h : Hp) : Prop := ∃ n B τ p c b9 x9 p9 m α, LV n B T h ∧ B ≤ 2000 ∧ FN n h ∧ RM τ n p (8 * B) c B (gI h 1 4) h ∧ isK h 125 kc_Out = true ∧ τ 125 = 0 ∧ (isK h 0 100 = true ∧ ln h 0 = L) ∧ nx h ≤ 200 + 1004 * T + 33 * B ∧ sc h ≤ 5000 + 7040 * T + 648 * B + 4 * c ∧ MX b9 x9 p9 m h ∧ BB τ b9 x9 p9 m h ∧ CA n h α ∧ RA τ n p c B h α
theorem cc_k {lo : Nat} (C : CCg lo m T h h1) {a k : Nat} (hk : isK h a k = true) : isK h1 a k = true := by
  obtain ⟨k1, k2⟩ := isK_spec hk
  exact isK_of (Nat.lt_of_lt_of_le k1 C.2.2.2.2.2.1) (by rw [(C.2.2.2.2.1 a k1).1]; exact k2)
theorem mo_k {S : Nat → Prop} (mo : Mog S τ n c B K h h1) : isK h1 121 kc_Mdl = true := by
  obtain ⟨τ2, p2, c', B2, R2, -⟩ := mo
  exact R2.k
theorem mo_o {S : Nat → Prop} (mo : Mog S τ n c B K h h1) {a k : Nat} (hk : isK h a k = true) : isK h1 a k = true := by
  obtain ⟨τ2, p2, c', B2, R2, X2, -⟩ := mo
  exact X2.k hk
theorem mo_l {S : Nat → Prop} (mo : Mog S τ n c B K h h1) {a k : Nat} (t : τ a = 0) (hS : ¬ S 0 := by first | (unfold S0; decide) | (unfold SM9; decide)) : gL h1 a k = gL h a k := by
  obtain ⟨τ2, p2, c', B2, R2, X2, G2, -⟩ := mo
  exact (G2 a (by rw [t]; exact hS) k).2.2
theorem lg_cmp_self (x : Int64) : lg_cmp x x = 0 := by
  unfold lg_cmp
  rw [if_neg (Int64.lt_irrefl), if_pos rfl]
theorem li_go {lo : Nat} {α : As} (C : CCg lo m (T + 1) h h1) (Y : CA m h1 α) (R : RM τ n p (8 * B) c B (gI h 1 4) h) (O : isK h 125 kc_Out = true) (t125 : τ 125 = 0) (s : isK h 0 100 = true ∧ ln h 0 = L) (rn : nx h ≤ 200 + 1004 * T + 33 * B) (rs : sc h ≤ 5000 + 7040 * T + 648 * B + 4 * c) (mo : MoA τ m c B (gI h 1 4) b9 x9 p9 q α h1 h2) (M : MX b9 x9 p9 q h1) (hlo : lo ≤ 121 := by decide) : LI L (T + 1) h2 := by
  have F1 := (R.cls C hlo).F
  have O1 := cc_k C O
  have s1 := cc_k C s.1
  have hm8 := cc_n8 C
  obtain ⟨⟨B1, b1, L1⟩, W1, cK, c1, c2, c3, c4, c5⟩ := C
  obtain ⟨τ2, p2, c', B2, R2, X2, G2, ⟨le, nn, ss⟩, V2, t, A2⟩ := mo
  have h121 : 121 ≤ nx h1 := L1.1.1.1.1.1
  have E : ∀ a k, a < 121 → gI h2 a k = gI h1 a k ∧ gR h2 a k = gR h1 a k ∧ gL h2 a k = gL h1 a k := fun a k ha => G2 a (by rw [F1.2.2.1 a ha]; unfold SM9; omega) k
  have L2 := L1.up E (fun a ha => (X2.1 a (by omega)).2) (Nat.le_trans h121 X2.2)
  have Y2 : CA m h2 (asV α 50 1 t) := (Y.ka hm8 ⟨fun a k _ h => (E a k (by omega)).1, (E 115 8 (by omega)).1, fun a k h => (E a k (by omega)).2.1, fun a k h => (E a k (by omega)).2.2⟩).t hm8 t
  have eB : B1 = B2 := by
    have q1 := L2.2.2.2
    have q2 := Y2.2.2.2.2.1.1 2 (by omega) (by omega)
    have q3 := A2.g (k := 2) (by omega) (by omega)
    have q4 := R2.sl
    have q5 := R2.b2
    have q6 := q1.symm.trans (q2.trans (q3.symm.trans q4))
    rwa [ii_inj (by omega) (by omega)] at q6
  subst eB
  refine ⟨m, B1, τ2, p2, c', b9, x9, p9, q, asV α 50 1 t, L2, b1, W1.up E, by rw [(E 1 4 (by omega)).1, cK]; exact R2, X2.k O1, by rw [(X2.1 125 (isK_spec O1).1).1]; exact t125, ⟨X2.k s1, ?_⟩, by omega, by omega, M.of fun a k _ h2 => (E a k h2).1, V2, Y2, A2⟩
  rw [X2.l s1, (c2 0 (isK_spec s.1).1).2, s.2]
theorem bid_nums {x y z : Int32} (e : bidOK x y z = true) : ∃ b w p, x = ii b ∧ y = ii w ∧ z = ii p ∧ b < 5 ∧ 1 ≤ w ∧ w < 64 ∧ 1 ≤ p ∧ p ≤ 999 := by
  unfold bidOK at e
  have e1 := Bool.and_eq_true_iff.mp e
  have e2 := Bool.and_eq_true_iff.mp e1.2
  obtain ⟨b, b1, hb⟩ := i32_cases (b := 4) (by omega) e1.1
  obtain ⟨y1, y2, y3, hy⟩ := i32_cases1 (a := 1) (b := 63) (by omega) e2.1 (by omega)
  obtain ⟨q1, q2, q3, hq⟩ := i32_cases1 (a := 1) (b := 999) (by omega) e2.2 (by omega)
  exact ⟨b, y1, q1, hb, hy, hq, by omega, y2, by omega, q2, q3⟩
theorem d_node (I : LI L T h) (hT : 5 * T + 5 ≤ L) (hL : L ≤ 2560) (w5 w6 w7 w8 : Option MV) : ∃ h2 v5 v6 v7 v8, (∀ Q, WP Gm j_Law_law 152 [some (.inr (.inl (some 0))), some (.inr (.inl (some 1))), some (.inr (.inl (some 121))), some (.inr (.inl (some 125))), some (.inl (ii (5 * T))), w5, w6, w7, w8] [] h Q = WP Gm j_Law_law 996 [some (.inr (.inl (some 0))), some (.inr (.inl (some 1))), some (.inr (.inl (some 121))), some (.inr (.inl (some 125))), some (.inl (ii (5 * T))), v5, v6, v7, v8] [] h2 Q) ∧ LI L (T + 1) h2 := by
  obtain ⟨n, B, τ, p, c, b9, x9, p9, m, α, Lv, hB, W, R, O, t125, ⟨s1, s2⟩, rn, rs, M, V, Cv, Rv⟩ := I
  have b2 := R.b2
  have cb := R.cb
  have S := Lv.1.1.1
  have hn8 := n8 S
  have hnx : 121 ≤ nx h := S.1.1
  have hr : okR cM sM h 1 6 = true := ok_big (by omega) (by omega)
  have Cv0 := Cv.t hn8 0
  have j1 : inL h 0 (ii (5 * T + 1)) = true := inL_n (by omega) (by rw [s2]; omega)
  have t1 : (ii (5 * T + 1)).toNatClampNeg = 5 * T + 1 := ii_nat (by omega)
  have a1 : ii (5 * T) + 1 = ii (5 * T + 1) := ii_add _ 1
  have j2 : inL h 0 (ii (5 * T + 2)) = true := inL_n (by omega) (by rw [s2]; omega)
  have t2 : (ii (5 * T + 2)).toNatClampNeg = 5 * T + 2 := ii_nat (by omega)
  have a2 : ii (5 * T) + 2 = ii (5 * T + 2) := ii_add _ 2
  have j3 : inL h 0 (ii (5 * T + 3)) = true := inL_n (by omega) (by rw [s2]; omega)
  have t3 : (ii (5 * T + 3)).toNatClampNeg = 5 * T + 3 := ii_nat (by omega)
  have a3 : ii (5 * T) + 3 = ii (5 * T + 3) := ii_add _ 3
  have j4 : inL h 0 (ii (5 * T + 4)) = true := inL_n (by omega) (by rw [s2]; omega)
  have t4 : (ii (5 * T + 4)).toNatClampNeg = 5 * T + 4 := ii_nat (by omega)
  have a4 : ii (5 * T) + 4 = ii (5 * T + 4) := ii_add _ 4
  by_cases z0 : gI h 0 (5 * T + 4) = 0
  · obtain ⟨k, h1, e1, cc, k1, k2, Y⟩ := hv_node Lv hB W hr O Cv0  (gI h 0 (5 * T + 1)) (gI h 0 (5 * T + 2)) (gI h 0 (5 * T + 3)) (Or.inl rfl)
    have R1 := R.cls cc
    have V1 := V.cls R.F cc
    have M1 := M.up cc (by omega) Lv.1.1.1.1.1
    have A1 := Rv.cls R cc
    have A2 := A1.th R1 0
    have n4 := cc.2.2.2.2.2.2.1
    have n5 := cc.2.2.2.2.2.2.2
    have q1 := cc_k cc s1
    have q2 : ln h1 0 = L := by rw [(cc.2.2.2.2.1 0 (isK_spec s1).1).2, s2]
    have g1 : inL h1 0 (ii (5 * T + 1)) = true := inL_n (by omega) (by rw [q2]; omega)
    have y1 : gI h1 0 (5 * T + 1) = gI h 0 (5 * T + 1) := (cc.2.2.2.1 0 _ (Or.inl rfl) (isK_spec s1).1).1
    have g2 : inL h1 0 (ii (5 * T + 2)) = true := inL_n (by omega) (by rw [q2]; omega)
    have y2 : gI h1 0 (5 * T + 2) = gI h 0 (5 * T + 2) := (cc.2.2.2.1 0 _ (Or.inl rfl) (isK_spec s1).1).1
    have g3 : inL h1 0 (ii (5 * T + 3)) = true := inL_n (by omega) (by rw [q2]; omega)
    have y3 : gI h1 0 (5 * T + 3) = gI h 0 (5 * T + 3) := (cc.2.2.2.1 0 _ (Or.inl rfl) (isK_spec s1).1).1
    have g4 : inL h1 0 (ii (5 * T + 4)) = true := inL_n (by omega) (by rw [q2]; omega)
    have y4 : gI h1 0 (5 * T + 4) = gI h 0 (5 * T + 4) := (cc.2.2.2.1 0 _ (Or.inl rfl) (isK_spec s1).1).1
    obtain ⟨v, h2, e2, z1, z2, mo⟩ := qx_mnode R1 A2  V1  (by omega) (by omega) (gI h 0 (5 * T + 1)) (gI h 0 (5 * T + 2)) (gI h 0 (5 * T + 3)) (Or.inl rfl)
    refine ⟨h2, some (.inl k), some (.inl v), w7, w8, fun Q => ?_, li_go cc Y R O t125 ⟨s1, s2⟩ rn rs mo M1⟩
    simp only [↓e_Law_law_152, ↓e_Law_law_153, ↓e_Law_law_154, ↓e_Law_law_156, ↓e_Law_law_157, ↓e_Law_law_158, ↓e_Law_law_159, ↓e_Law_law_160, ↓e_Law_law_162, ↓e_Law_law_163, ↓e_Law_law_164, ↓e_Law_law_165, ↓e_Law_law_166, ↓e_Law_law_168, ↓e_Law_law_169, ↓e_Law_law_170, ↓e_Law_law_171, ↓e_Law_law_172, ↓e_Law_law_174, ↓e_Law_law_175, ↓e_Law_law_176, ↓e_Law_law_177, ↓e_Law_law_180, ↓e_Law_law_181, ↓e_Law_law_184, ↓e_Law_law_185, ↓e_Law_law_186, ↓e_Law_law_189, ↓e_Law_law_191, ↓e_Law_law_192, ↓e_Law_law_193, ↓e_Law_law_195, ↓e_Law_law_196, ↓e_Law_law_197, ↓e_Law_law_198, ↓e_Law_law_199, ↓e_Law_law_201, ↓e_Law_law_202, ↓e_Law_law_203, ↓e_Law_law_204, ↓e_Law_law_205, ↓e_Law_law_207, ↓e_Law_law_208, ↓e_Law_law_209, ↓e_Law_law_210, ↓e_Law_law_211, ↓e_Law_law_213, ↓e_Law_law_214, ↓e_Law_law_215, ↓e_Law_law_216, ↓e_Law_law_219, ↓e_Law_law_220, ↓e_Law_law_223, ↓e_Law_law_224, ↓e_Law_law_227, ↓e_Law_law_229, not_true_eq_false, not_false_eq_true, one0, true_or, or_true, eq_self, bI_z, bI_nz, bI_o, b_ft, bI_1, bI_0, ↓kC_l, ↓kC_r, Option.toList_some, Option.toList_none, List.cons_append, List.nil_append, s1_0, s1_1i, s1_1r, s1_1w, s1_1n, s1_s, s2_0, s2_1i, s2_1r, s2_1w, s2_1n, s2_s, gI_sI, gI_sR, gI_sL, gI_sD, gR_sI, gR_sR, gR_sL, gR_sD, gL_sI, gL_sR, gL_sL, gL_sD, gD_sI, gD_sR, gD_sL, gD_sD, isK_sI, isK_sR, isK_sL, isK_sD, inL_sI, inL_sR, inL_sL, inL_sD, nx_sI, nx_sR, nx_sL, nx_sD, kd_sI, kd_sR, kd_sL, kd_sD, ln_sI, ln_sR, ln_sL, ln_sD, ↓reduceIte, c8_n, c8_1, c8_2, c8_3, c8_4, Nat.reduceAdd, ii_succ, s1, j1, t1, a1, j2, t2, a2, j3, t3, a3, j4, t4, a4, q1, g1, y1, g2, y2, g3, y3, g4, y4, z0, k_s S, e1, R1.k, e2]
  · obtain ⟨k, h1, e1, cc, k1, k2, Y⟩ := hv_node Lv hB W hr O Cv0  (gI h 0 (5 * T + 1)) (gI h 0 (5 * T + 2)) (gI h 0 (5 * T + 3)) (Or.inr rfl)
    have R1 := R.cls cc
    have V1 := V.cls R.F cc
    have M1 := M.up cc (by omega) Lv.1.1.1.1.1
    have A1 := Rv.cls R cc
    have A2 := A1.th R1 0
    have n4 := cc.2.2.2.2.2.2.1
    have n5 := cc.2.2.2.2.2.2.2
    have q1 := cc_k cc s1
    have q2 : ln h1 0 = L := by rw [(cc.2.2.2.2.1 0 (isK_spec s1).1).2, s2]
    have g1 : inL h1 0 (ii (5 * T + 1)) = true := inL_n (by omega) (by rw [q2]; omega)
    have y1 : gI h1 0 (5 * T + 1) = gI h 0 (5 * T + 1) := (cc.2.2.2.1 0 _ (Or.inl rfl) (isK_spec s1).1).1
    have g2 : inL h1 0 (ii (5 * T + 2)) = true := inL_n (by omega) (by rw [q2]; omega)
    have y2 : gI h1 0 (5 * T + 2) = gI h 0 (5 * T + 2) := (cc.2.2.2.1 0 _ (Or.inl rfl) (isK_spec s1).1).1
    have g3 : inL h1 0 (ii (5 * T + 3)) = true := inL_n (by omega) (by rw [q2]; omega)
    have y3 : gI h1 0 (5 * T + 3) = gI h 0 (5 * T + 3) := (cc.2.2.2.1 0 _ (Or.inl rfl) (isK_spec s1).1).1
    have g4 : inL h1 0 (ii (5 * T + 4)) = true := inL_n (by omega) (by rw [q2]; omega)
    have y4 : gI h1 0 (5 * T + 4) = gI h 0 (5 * T + 4) := (cc.2.2.2.1 0 _ (Or.inl rfl) (isK_spec s1).1).1
    obtain ⟨v, h2, e2, z1, z2, mo⟩ := qx_mnode R1 A2  V1  (by omega) (by omega) (gI h 0 (5 * T + 1)) (gI h 0 (5 * T + 2)) (gI h 0 (5 * T + 3)) (Or.inr rfl)
    refine ⟨h2, some (.inl k), some (.inl v), w7, w8, fun Q => ?_, li_go cc Y R O t125 ⟨s1, s2⟩ rn rs mo M1⟩
    simp only [↓e_Law_law_152, ↓e_Law_law_153, ↓e_Law_law_154, ↓e_Law_law_156, ↓e_Law_law_157, ↓e_Law_law_158, ↓e_Law_law_159, ↓e_Law_law_160, ↓e_Law_law_162, ↓e_Law_law_163, ↓e_Law_law_164, ↓e_Law_law_165, ↓e_Law_law_166, ↓e_Law_law_168, ↓e_Law_law_169, ↓e_Law_law_170, ↓e_Law_law_171, ↓e_Law_law_172, ↓e_Law_law_174, ↓e_Law_law_175, ↓e_Law_law_176, ↓e_Law_law_177, ↓e_Law_law_180, ↓e_Law_law_181, ↓e_Law_law_184, ↓e_Law_law_185, ↓e_Law_law_186, ↓e_Law_law_189, ↓e_Law_law_191, ↓e_Law_law_192, ↓e_Law_law_193, ↓e_Law_law_195, ↓e_Law_law_196, ↓e_Law_law_197, ↓e_Law_law_198, ↓e_Law_law_199, ↓e_Law_law_201, ↓e_Law_law_202, ↓e_Law_law_203, ↓e_Law_law_204, ↓e_Law_law_205, ↓e_Law_law_207, ↓e_Law_law_208, ↓e_Law_law_209, ↓e_Law_law_210, ↓e_Law_law_211, ↓e_Law_law_213, ↓e_Law_law_214, ↓e_Law_law_215, ↓e_Law_law_216, ↓e_Law_law_219, ↓e_Law_law_220, ↓e_Law_law_223, ↓e_Law_law_224, ↓e_Law_law_227, ↓e_Law_law_229, not_true_eq_false, not_false_eq_true, one0, true_or, or_true, eq_self, bI_z, bI_nz, bI_o, b_ft, bI_1, bI_0, ↓kC_l, ↓kC_r, Option.toList_some, Option.toList_none, List.cons_append, List.nil_append, s1_0, s1_1i, s1_1r, s1_1w, s1_1n, s1_s, s2_0, s2_1i, s2_1r, s2_1w, s2_1n, s2_s, gI_sI, gI_sR, gI_sL, gI_sD, gR_sI, gR_sR, gR_sL, gR_sD, gL_sI, gL_sR, gL_sL, gL_sD, gD_sI, gD_sR, gD_sL, gD_sD, isK_sI, isK_sR, isK_sL, isK_sD, inL_sI, inL_sR, inL_sL, inL_sD, nx_sI, nx_sR, nx_sL, nx_sD, kd_sI, kd_sR, kd_sL, kd_sD, ln_sI, ln_sR, ln_sL, ln_sD, ↓reduceIte, c8_n, c8_1, c8_2, c8_3, c8_4, Nat.reduceAdd, ii_succ, s1, j1, t1, a1, j2, t2, a2, j3, t3, a3, j4, t4, a4, q1, g1, y1, g2, y2, g3, y3, g4, y4, z0, k_s S, e1, R1.k, e2]
theorem d_move (I : LI L T h) (hT : 5 * T + 5 ≤ L) (hL : L ≤ 2560) (w5 w6 w7 w8 : Option MV) : ∃ h2 v5 v6 v7 v8, (∀ Q, WP Gm j_Law_law 232 [some (.inr (.inl (some 0))), some (.inr (.inl (some 1))), some (.inr (.inl (some 121))), some (.inr (.inl (some 125))), some (.inl (ii (5 * T))), w5, w6, w7, w8] [] h Q = WP Gm j_Law_law 996 [some (.inr (.inl (some 0))), some (.inr (.inl (some 1))), some (.inr (.inl (some 121))), some (.inr (.inl (some 125))), some (.inl (ii (5 * T))), v5, v6, v7, v8] [] h2 Q) ∧ LI L (T + 1) h2 := by
  obtain ⟨n, B, τ, p, c, b9, x9, p9, m, α, Lv, hB, W, R, O, t125, ⟨s1, s2⟩, rn, rs, M, V, Cv, Rv⟩ := I
  have b2 := R.b2
  have cb := R.cb
  have S := Lv.1.1.1
  have hn8 := n8 S
  have hnx : 121 ≤ nx h := S.1.1
  have hr : okR cM sM h 1 6 = true := ok_big (by omega) (by omega)
  have Cv0 := Cv.t hn8 0
  have j1 : inL h 0 (ii (5 * T + 1)) = true := inL_n (by omega) (by rw [s2]; omega)
  have t1 : (ii (5 * T + 1)).toNatClampNeg = 5 * T + 1 := ii_nat (by omega)
  have a1 : ii (5 * T) + 1 = ii (5 * T + 1) := ii_add _ 1
  have j2 : inL h 0 (ii (5 * T + 2)) = true := inL_n (by omega) (by rw [s2]; omega)
  have t2 : (ii (5 * T + 2)).toNatClampNeg = 5 * T + 2 := ii_nat (by omega)
  have a2 : ii (5 * T) + 2 = ii (5 * T + 2) := ii_add _ 2
  have j3 : inL h 0 (ii (5 * T + 3)) = true := inL_n (by omega) (by rw [s2]; omega)
  have t3 : (ii (5 * T + 3)).toNatClampNeg = 5 * T + 3 := ii_nat (by omega)
  have a3 : ii (5 * T) + 3 = ii (5 * T + 3) := ii_add _ 3
  obtain ⟨k, h1, e1, cc, k1, k2, Y⟩ := hv_move Lv hB W hr O Cv0  (gI h 0 (5 * T + 1)) (gI h 0 (5 * T + 2)) (gI h 0 (5 * T + 3))
  have R1 := R.cls cc
  have V1 := V.cls R.F cc
  have M1 := M.up cc (by omega) Lv.1.1.1.1.1
  have A1 := Rv.cls R cc
  have A2 := A1.th R1 0
  have n4 := cc.2.2.2.2.2.2.1
  have n5 := cc.2.2.2.2.2.2.2
  have q1 := cc_k cc s1
  have q2 : ln h1 0 = L := by rw [(cc.2.2.2.2.1 0 (isK_spec s1).1).2, s2]
  have g1 : inL h1 0 (ii (5 * T + 1)) = true := inL_n (by omega) (by rw [q2]; omega)
  have y1 : gI h1 0 (5 * T + 1) = gI h 0 (5 * T + 1) := (cc.2.2.2.1 0 _ (Or.inl rfl) (isK_spec s1).1).1
  have g2 : inL h1 0 (ii (5 * T + 2)) = true := inL_n (by omega) (by rw [q2]; omega)
  have y2 : gI h1 0 (5 * T + 2) = gI h 0 (5 * T + 2) := (cc.2.2.2.1 0 _ (Or.inl rfl) (isK_spec s1).1).1
  have g3 : inL h1 0 (ii (5 * T + 3)) = true := inL_n (by omega) (by rw [q2]; omega)
  have y3 : gI h1 0 (5 * T + 3) = gI h 0 (5 * T + 3) := (cc.2.2.2.1 0 _ (Or.inl rfl) (isK_spec s1).1).1
  obtain ⟨v, h2, e2, z1, z2, mo⟩ := qx_mmove R1 A2  V1  (by omega) (by omega) (gI h 0 (5 * T + 1)) (gI h 0 (5 * T + 2)) (gI h 0 (5 * T + 3))
  refine ⟨h2, some (.inl k), some (.inl v), w7, w8, fun Q => ?_, li_go cc Y R O t125 ⟨s1, s2⟩ rn rs mo M1⟩
  simp only [↓e_Law_law_232, ↓e_Law_law_233, ↓e_Law_law_234, ↓e_Law_law_236, ↓e_Law_law_237, ↓e_Law_law_238, ↓e_Law_law_239, ↓e_Law_law_240, ↓e_Law_law_242, ↓e_Law_law_243, ↓e_Law_law_244, ↓e_Law_law_245, ↓e_Law_law_246, ↓e_Law_law_248, ↓e_Law_law_249, ↓e_Law_law_250, ↓e_Law_law_251, ↓e_Law_law_252, ↓e_Law_law_255, ↓e_Law_law_257, ↓e_Law_law_258, ↓e_Law_law_259, ↓e_Law_law_261, ↓e_Law_law_262, ↓e_Law_law_263, ↓e_Law_law_264, ↓e_Law_law_265, ↓e_Law_law_267, ↓e_Law_law_268, ↓e_Law_law_269, ↓e_Law_law_270, ↓e_Law_law_271, ↓e_Law_law_273, ↓e_Law_law_274, ↓e_Law_law_275, ↓e_Law_law_276, ↓e_Law_law_279, ↓e_Law_law_281, not_true_eq_false, not_false_eq_true, one0, true_or, or_true, eq_self, bI_z, bI_nz, bI_o, b_ft, bI_1, bI_0, ↓kC_l, ↓kC_r, Option.toList_some, Option.toList_none, List.cons_append, List.nil_append, s1_0, s1_1i, s1_1r, s1_1w, s1_1n, s1_s, s2_0, s2_1i, s2_1r, s2_1w, s2_1n, s2_s, gI_sI, gI_sR, gI_sL, gI_sD, gR_sI, gR_sR, gR_sL, gR_sD, gL_sI, gL_sR, gL_sL, gL_sD, gD_sI, gD_sR, gD_sL, gD_sD, isK_sI, isK_sR, isK_sL, isK_sD, inL_sI, inL_sR, inL_sL, inL_sD, nx_sI, nx_sR, nx_sL, nx_sD, kd_sI, kd_sR, kd_sL, kd_sD, ln_sI, ln_sR, ln_sL, ln_sD, ↓reduceIte, c8_n, c8_1, c8_2, c8_3, c8_4, Nat.reduceAdd, ii_succ, s1, j1, t1, a1, j2, t2, a2, j3, t3, a3, q1, g1, y1, g2, y2, g3, y3, k_s S, e1, R1.k, e2]
theorem d_tune (I : LI L T h) (hT : 5 * T + 5 ≤ L) (hL : L ≤ 2560) (w5 w6 w7 w8 : Option MV) : ∃ h2 v5 v6 v7 v8, (∀ Q, WP Gm j_Law_law 284 [some (.inr (.inl (some 0))), some (.inr (.inl (some 1))), some (.inr (.inl (some 121))), some (.inr (.inl (some 125))), some (.inl (ii (5 * T))), w5, w6, w7, w8] [] h Q = WP Gm j_Law_law 996 [some (.inr (.inl (some 0))), some (.inr (.inl (some 1))), some (.inr (.inl (some 121))), some (.inr (.inl (some 125))), some (.inl (ii (5 * T))), v5, v6, v7, v8] [] h2 Q) ∧ LI L (T + 1) h2 := by
  obtain ⟨n, B, τ, p, c, b9, x9, p9, m, α, Lv, hB, W, R, O, t125, ⟨s1, s2⟩, rn, rs, M, V, Cv, Rv⟩ := I
  have b2 := R.b2
  have cb := R.cb
  have S := Lv.1.1.1
  have hn8 := n8 S
  have hnx : 121 ≤ nx h := S.1.1
  have hr : okR cM sM h 1 6 = true := ok_big (by omega) (by omega)
  have Cv0 := Cv.t hn8 0
  have j1 : inL h 0 (ii (5 * T + 1)) = true := inL_n (by omega) (by rw [s2]; omega)
  have t1 : (ii (5 * T + 1)).toNatClampNeg = 5 * T + 1 := ii_nat (by omega)
  have a1 : ii (5 * T) + 1 = ii (5 * T + 1) := ii_add _ 1
  have j2 : inL h 0 (ii (5 * T + 2)) = true := inL_n (by omega) (by rw [s2]; omega)
  have t2 : (ii (5 * T + 2)).toNatClampNeg = 5 * T + 2 := ii_nat (by omega)
  have a2 : ii (5 * T) + 2 = ii (5 * T + 2) := ii_add _ 2
  have j3 : inL h 0 (ii (5 * T + 3)) = true := inL_n (by omega) (by rw [s2]; omega)
  have t3 : (ii (5 * T + 3)).toNatClampNeg = 5 * T + 3 := ii_nat (by omega)
  have a3 : ii (5 * T) + 3 = ii (5 * T + 3) := ii_add _ 3
  by_cases z0 : gI h 0 (5 * T + 3) = 0
  · obtain ⟨k, h1, e1, cc, k1, k2, Y⟩ := hv_tune Lv hB W hr O Cv0  (gI h 0 (5 * T + 1)) (gI h 0 (5 * T + 2)) (Or.inl rfl)
    have R1 := R.cls cc
    have V1 := V.cls R.F cc
    have M1 := M.up cc (by omega) Lv.1.1.1.1.1
    have A1 := Rv.cls R cc
    have A2 := A1.th R1 0
    have n4 := cc.2.2.2.2.2.2.1
    have n5 := cc.2.2.2.2.2.2.2
    have q1 := cc_k cc s1
    have q2 : ln h1 0 = L := by rw [(cc.2.2.2.2.1 0 (isK_spec s1).1).2, s2]
    have g1 : inL h1 0 (ii (5 * T + 1)) = true := inL_n (by omega) (by rw [q2]; omega)
    have y1 : gI h1 0 (5 * T + 1) = gI h 0 (5 * T + 1) := (cc.2.2.2.1 0 _ (Or.inl rfl) (isK_spec s1).1).1
    have g2 : inL h1 0 (ii (5 * T + 2)) = true := inL_n (by omega) (by rw [q2]; omega)
    have y2 : gI h1 0 (5 * T + 2) = gI h 0 (5 * T + 2) := (cc.2.2.2.1 0 _ (Or.inl rfl) (isK_spec s1).1).1
    have g3 : inL h1 0 (ii (5 * T + 3)) = true := inL_n (by omega) (by rw [q2]; omega)
    have y3 : gI h1 0 (5 * T + 3) = gI h 0 (5 * T + 3) := (cc.2.2.2.1 0 _ (Or.inl rfl) (isK_spec s1).1).1
    obtain ⟨v, h2, e2, z1, z2, mo⟩ := qx_mtune R1 A2  V1  (by omega) (by omega) (gI h 0 (5 * T + 1)) (gI h 0 (5 * T + 2)) (Or.inl rfl)
    refine ⟨h2, some (.inl k), some (.inl v), w7, w8, fun Q => ?_, li_go cc Y R O t125 ⟨s1, s2⟩ rn rs mo M1⟩
    simp only [↓e_Law_law_284, ↓e_Law_law_285, ↓e_Law_law_286, ↓e_Law_law_288, ↓e_Law_law_289, ↓e_Law_law_290, ↓e_Law_law_291, ↓e_Law_law_292, ↓e_Law_law_294, ↓e_Law_law_295, ↓e_Law_law_296, ↓e_Law_law_297, ↓e_Law_law_298, ↓e_Law_law_300, ↓e_Law_law_301, ↓e_Law_law_302, ↓e_Law_law_303, ↓e_Law_law_306, ↓e_Law_law_307, ↓e_Law_law_310, ↓e_Law_law_311, ↓e_Law_law_312, ↓e_Law_law_315, ↓e_Law_law_317, ↓e_Law_law_318, ↓e_Law_law_319, ↓e_Law_law_321, ↓e_Law_law_322, ↓e_Law_law_323, ↓e_Law_law_324, ↓e_Law_law_325, ↓e_Law_law_327, ↓e_Law_law_328, ↓e_Law_law_329, ↓e_Law_law_330, ↓e_Law_law_331, ↓e_Law_law_333, ↓e_Law_law_334, ↓e_Law_law_335, ↓e_Law_law_336, ↓e_Law_law_339, ↓e_Law_law_340, ↓e_Law_law_343, ↓e_Law_law_344, ↓e_Law_law_347, ↓e_Law_law_349, not_true_eq_false, not_false_eq_true, one0, true_or, or_true, eq_self, bI_z, bI_nz, bI_o, b_ft, bI_1, bI_0, ↓kC_l, ↓kC_r, Option.toList_some, Option.toList_none, List.cons_append, List.nil_append, s1_0, s1_1i, s1_1r, s1_1w, s1_1n, s1_s, s2_0, s2_1i, s2_1r, s2_1w, s2_1n, s2_s, gI_sI, gI_sR, gI_sL, gI_sD, gR_sI, gR_sR, gR_sL, gR_sD, gL_sI, gL_sR, gL_sL, gL_sD, gD_sI, gD_sR, gD_sL, gD_sD, isK_sI, isK_sR, isK_sL, isK_sD, inL_sI, inL_sR, inL_sL, inL_sD, nx_sI, nx_sR, nx_sL, nx_sD, kd_sI, kd_sR, kd_sL, kd_sD, ln_sI, ln_sR, ln_sL, ln_sD, ↓reduceIte, c8_n, c8_1, c8_2, c8_3, c8_4, Nat.reduceAdd, ii_succ, s1, j1, t1, a1, j2, t2, a2, j3, t3, a3, q1, g1, y1, g2, y2, g3, y3, z0, k_s S, e1, R1.k, e2]
  · obtain ⟨k, h1, e1, cc, k1, k2, Y⟩ := hv_tune Lv hB W hr O Cv0  (gI h 0 (5 * T + 1)) (gI h 0 (5 * T + 2)) (Or.inr rfl)
    have R1 := R.cls cc
    have V1 := V.cls R.F cc
    have M1 := M.up cc (by omega) Lv.1.1.1.1.1
    have A1 := Rv.cls R cc
    have A2 := A1.th R1 0
    have n4 := cc.2.2.2.2.2.2.1
    have n5 := cc.2.2.2.2.2.2.2
    have q1 := cc_k cc s1
    have q2 : ln h1 0 = L := by rw [(cc.2.2.2.2.1 0 (isK_spec s1).1).2, s2]
    have g1 : inL h1 0 (ii (5 * T + 1)) = true := inL_n (by omega) (by rw [q2]; omega)
    have y1 : gI h1 0 (5 * T + 1) = gI h 0 (5 * T + 1) := (cc.2.2.2.1 0 _ (Or.inl rfl) (isK_spec s1).1).1
    have g2 : inL h1 0 (ii (5 * T + 2)) = true := inL_n (by omega) (by rw [q2]; omega)
    have y2 : gI h1 0 (5 * T + 2) = gI h 0 (5 * T + 2) := (cc.2.2.2.1 0 _ (Or.inl rfl) (isK_spec s1).1).1
    have g3 : inL h1 0 (ii (5 * T + 3)) = true := inL_n (by omega) (by rw [q2]; omega)
    have y3 : gI h1 0 (5 * T + 3) = gI h 0 (5 * T + 3) := (cc.2.2.2.1 0 _ (Or.inl rfl) (isK_spec s1).1).1
    obtain ⟨v, h2, e2, z1, z2, mo⟩ := qx_mtune R1 A2  V1  (by omega) (by omega) (gI h 0 (5 * T + 1)) (gI h 0 (5 * T + 2)) (Or.inr rfl)
    refine ⟨h2, some (.inl k), some (.inl v), w7, w8, fun Q => ?_, li_go cc Y R O t125 ⟨s1, s2⟩ rn rs mo M1⟩
    simp only [↓e_Law_law_284, ↓e_Law_law_285, ↓e_Law_law_286, ↓e_Law_law_288, ↓e_Law_law_289, ↓e_Law_law_290, ↓e_Law_law_291, ↓e_Law_law_292, ↓e_Law_law_294, ↓e_Law_law_295, ↓e_Law_law_296, ↓e_Law_law_297, ↓e_Law_law_298, ↓e_Law_law_300, ↓e_Law_law_301, ↓e_Law_law_302, ↓e_Law_law_303, ↓e_Law_law_306, ↓e_Law_law_307, ↓e_Law_law_310, ↓e_Law_law_311, ↓e_Law_law_312, ↓e_Law_law_315, ↓e_Law_law_317, ↓e_Law_law_318, ↓e_Law_law_319, ↓e_Law_law_321, ↓e_Law_law_322, ↓e_Law_law_323, ↓e_Law_law_324, ↓e_Law_law_325, ↓e_Law_law_327, ↓e_Law_law_328, ↓e_Law_law_329, ↓e_Law_law_330, ↓e_Law_law_331, ↓e_Law_law_333, ↓e_Law_law_334, ↓e_Law_law_335, ↓e_Law_law_336, ↓e_Law_law_339, ↓e_Law_law_340, ↓e_Law_law_343, ↓e_Law_law_344, ↓e_Law_law_347, ↓e_Law_law_349, not_true_eq_false, not_false_eq_true, one0, true_or, or_true, eq_self, bI_z, bI_nz, bI_o, b_ft, bI_1, bI_0, ↓kC_l, ↓kC_r, Option.toList_some, Option.toList_none, List.cons_append, List.nil_append, s1_0, s1_1i, s1_1r, s1_1w, s1_1n, s1_s, s2_0, s2_1i, s2_1r, s2_1w, s2_1n, s2_s, gI_sI, gI_sR, gI_sL, gI_sD, gR_sI, gR_sR, gR_sL, gR_sD, gL_sI, gL_sR, gL_sL, gL_sD, gD_sI, gD_sR, gD_sL, gD_sD, isK_sI, isK_sR, isK_sL, isK_sD, inL_sI, inL_sR, inL_sL, inL_sD, nx_sI, nx_sR, nx_sL, nx_sD, kd_sI, kd_sR, kd_sL, kd_sD, ln_sI, ln_sR, ln_sL, ln_sD, ↓reduceIte, c8_n, c8_1, c8_2, c8_3, c8_4, Nat.reduceAdd, ii_succ, s1, j1, t1, a1, j2, t2, a2, j3, t3, a3, q1, g1, y1, g2, y2, g3, y3, z0, k_s S, e1, R1.k, e2]
theorem d_send (I : LI L T h) (hT : 5 * T + 5 ≤ L) (hL : L ≤ 2560) (w5 w6 w7 w8 : Option MV) : ∃ h2 v5 v6 v7 v8, (∀ Q, WP Gm j_Law_law 352 [some (.inr (.inl (some 0))), some (.inr (.inl (some 1))), some (.inr (.inl (some 121))), some (.inr (.inl (some 125))), some (.inl (ii (5 * T))), w5, w6, w7, w8] [] h Q = WP Gm j_Law_law 996 [some (.inr (.inl (some 0))), some (.inr (.inl (some 1))), some (.inr (.inl (some 121))), some (.inr (.inl (some 125))), some (.inl (ii (5 * T))), v5, v6, v7, v8] [] h2 Q) ∧ LI L (T + 1) h2 := by
  obtain ⟨n, B, τ, p, c, b9, x9, p9, m, α, Lv, hB, W, R, O, t125, ⟨s1, s2⟩, rn, rs, M, V, Cv, Rv⟩ := I
  have b2 := R.b2
  have cb := R.cb
  have S := Lv.1.1.1
  have hn8 := n8 S
  have hnx : 121 ≤ nx h := S.1.1
  have hr : okR cM sM h 1 6 = true := ok_big (by omega) (by omega)
  have Cv0 := Cv.t hn8 0
  have j1 : inL h 0 (ii (5 * T + 1)) = true := inL_n (by omega) (by rw [s2]; omega)
  have t1 : (ii (5 * T + 1)).toNatClampNeg = 5 * T + 1 := ii_nat (by omega)
  have a1 : ii (5 * T) + 1 = ii (5 * T + 1) := ii_add _ 1
  have j2 : inL h 0 (ii (5 * T + 2)) = true := inL_n (by omega) (by rw [s2]; omega)
  have t2 : (ii (5 * T + 2)).toNatClampNeg = 5 * T + 2 := ii_nat (by omega)
  have a2 : ii (5 * T) + 2 = ii (5 * T + 2) := ii_add _ 2
  have j3 : inL h 0 (ii (5 * T + 3)) = true := inL_n (by omega) (by rw [s2]; omega)
  have t3 : (ii (5 * T + 3)).toNatClampNeg = 5 * T + 3 := ii_nat (by omega)
  have a3 : ii (5 * T) + 3 = ii (5 * T + 3) := ii_add _ 3
  obtain ⟨k, h1, e1, cc, k1, k2, Y⟩ := hv_send Lv hB (by omega) W hr O Cv0  (gI h 0 (5 * T + 1)) (gI h 0 (5 * T + 2)) (gI h 0 (5 * T + 3))
  have R1 := R.cls cc
  have V1 := V.cls R.F cc
  have M1 := M.up cc (by omega) Lv.1.1.1.1.1
  have A1 := Rv.cls R cc
  have A2 := A1.th R1 0
  have n4 := cc.2.2.2.2.2.2.1
  have n5 := cc.2.2.2.2.2.2.2
  have q1 := cc_k cc s1
  have q2 : ln h1 0 = L := by rw [(cc.2.2.2.2.1 0 (isK_spec s1).1).2, s2]
  have g1 : inL h1 0 (ii (5 * T + 1)) = true := inL_n (by omega) (by rw [q2]; omega)
  have y1 : gI h1 0 (5 * T + 1) = gI h 0 (5 * T + 1) := (cc.2.2.2.1 0 _ (Or.inl rfl) (isK_spec s1).1).1
  have g2 : inL h1 0 (ii (5 * T + 2)) = true := inL_n (by omega) (by rw [q2]; omega)
  have y2 : gI h1 0 (5 * T + 2) = gI h 0 (5 * T + 2) := (cc.2.2.2.1 0 _ (Or.inl rfl) (isK_spec s1).1).1
  have g3 : inL h1 0 (ii (5 * T + 3)) = true := inL_n (by omega) (by rw [q2]; omega)
  have y3 : gI h1 0 (5 * T + 3) = gI h 0 (5 * T + 3) := (cc.2.2.2.1 0 _ (Or.inl rfl) (isK_spec s1).1).1
  obtain ⟨v, h2, e2, z1, z2, mo⟩ := qx_msend R1 A2  V1  (by omega) (by omega) (gI h 0 (5 * T + 1)) (gI h 0 (5 * T + 2)) (gI h 0 (5 * T + 3))
  refine ⟨h2, some (.inl k), some (.inl v), w7, w8, fun Q => ?_, li_go cc Y R O t125 ⟨s1, s2⟩ rn rs mo M1⟩
  simp only [↓e_Law_law_352, ↓e_Law_law_353, ↓e_Law_law_354, ↓e_Law_law_356, ↓e_Law_law_357, ↓e_Law_law_358, ↓e_Law_law_359, ↓e_Law_law_360, ↓e_Law_law_362, ↓e_Law_law_363, ↓e_Law_law_364, ↓e_Law_law_365, ↓e_Law_law_366, ↓e_Law_law_368, ↓e_Law_law_369, ↓e_Law_law_370, ↓e_Law_law_371, ↓e_Law_law_372, ↓e_Law_law_375, ↓e_Law_law_377, ↓e_Law_law_378, ↓e_Law_law_379, ↓e_Law_law_381, ↓e_Law_law_382, ↓e_Law_law_383, ↓e_Law_law_384, ↓e_Law_law_385, ↓e_Law_law_387, ↓e_Law_law_388, ↓e_Law_law_389, ↓e_Law_law_390, ↓e_Law_law_391, ↓e_Law_law_393, ↓e_Law_law_394, ↓e_Law_law_395, ↓e_Law_law_396, ↓e_Law_law_399, ↓e_Law_law_401, not_true_eq_false, not_false_eq_true, one0, true_or, or_true, eq_self, bI_z, bI_nz, bI_o, b_ft, bI_1, bI_0, ↓kC_l, ↓kC_r, Option.toList_some, Option.toList_none, List.cons_append, List.nil_append, s1_0, s1_1i, s1_1r, s1_1w, s1_1n, s1_s, s2_0, s2_1i, s2_1r, s2_1w, s2_1n, s2_s, gI_sI, gI_sR, gI_sL, gI_sD, gR_sI, gR_sR, gR_sL, gR_sD, gL_sI, gL_sR, gL_sL, gL_sD, gD_sI, gD_sR, gD_sL, gD_sD, isK_sI, isK_sR, isK_sL, isK_sD, inL_sI, inL_sR, inL_sL, inL_sD, nx_sI, nx_sR, nx_sL, nx_sD, kd_sI, kd_sR, kd_sL, kd_sD, ln_sI, ln_sR, ln_sL, ln_sD, ↓reduceIte, c8_n, c8_1, c8_2, c8_3, c8_4, Nat.reduceAdd, ii_succ, s1, j1, t1, a1, j2, t2, a2, j3, t3, a3, q1, g1, y1, g2, y2, g3, y3, k_s S, e1, R1.k, e2]
theorem d_pass (I : LI L T h) (hT : 5 * T + 5 ≤ L) (hL : L ≤ 2560) (w5 w6 w7 w8 : Option MV) : ∃ h2 v5 v6 v7 v8, (∀ Q, WP Gm j_Law_law 404 [some (.inr (.inl (some 0))), some (.inr (.inl (some 1))), some (.inr (.inl (some 121))), some (.inr (.inl (some 125))), some (.inl (ii (5 * T))), w5, w6, w7, w8] [] h Q = WP Gm j_Law_law 996 [some (.inr (.inl (some 0))), some (.inr (.inl (some 1))), some (.inr (.inl (some 121))), some (.inr (.inl (some 125))), some (.inl (ii (5 * T))), v5, v6, v7, v8] [] h2 Q) ∧ LI L (T + 1) h2 := by
  obtain ⟨n, B, τ, p, c, b9, x9, p9, m, α, Lv, hB, W, R, O, t125, ⟨s1, s2⟩, rn, rs, M, V, Cv, Rv⟩ := I
  have b2 := R.b2
  have cb := R.cb
  have S := Lv.1.1.1
  have hn8 := n8 S
  have hnx : 121 ≤ nx h := S.1.1
  have hr : okR cM sM h 1 6 = true := ok_big (by omega) (by omega)
  have Cv0 := Cv.t hn8 0
  have W0 := ai_vq Lv.1.1 Cv0
  have R0 : RM τ n p (8 * B) c B (gI h 1 4) (sI h 121 0 0) := R.th
  have W9 := vs_all R0 (Rv.th R 0) W0 (by show nx h + _ + _ ≤ _; omega) (by show sc h + _ + _ ≤ _; omega)
  have j1 : inL h 0 (ii (5 * T + 1)) = true := inL_n (by omega) (by rw [s2]; omega)
  have t1 : (ii (5 * T + 1)).toNatClampNeg = 5 * T + 1 := ii_nat (by omega)
  have a1 : ii (5 * T) + 1 = ii (5 * T + 1) := ii_add _ 1
  obtain ⟨k, h1, e1, cc, k1, k2, Y⟩ := hv_pass Lv hB W hr O Cv0 W9 (gI h 0 (5 * T + 1))
  have R1 := R.cls cc
  have V1 := V.cls R.F cc
  have M1 := M.up cc (by omega) Lv.1.1.1.1.1
  have A1 := Rv.cls R cc
  have A2 := A1.th R1 0
  have n4 := cc.2.2.2.2.2.2.1
  have n5 := cc.2.2.2.2.2.2.2
  have q1 := cc_k cc s1
  have q2 : ln h1 0 = L := by rw [(cc.2.2.2.2.1 0 (isK_spec s1).1).2, s2]
  have g1 : inL h1 0 (ii (5 * T + 1)) = true := inL_n (by omega) (by rw [q2]; omega)
  have y1 : gI h1 0 (5 * T + 1) = gI h 0 (5 * T + 1) := (cc.2.2.2.1 0 _ (Or.inl rfl) (isK_spec s1).1).1
  obtain ⟨v, h2, e2, z1, z2, mo⟩ := qx_mpass R1 A2 W0 V1  (by omega) (by omega) (gI h 0 (5 * T + 1))
  refine ⟨h2, some (.inl k), some (.inl v), w7, w8, fun Q => ?_, li_go cc Y R O t125 ⟨s1, s2⟩ rn rs mo M1⟩
  simp only [↓e_Law_law_404, ↓e_Law_law_405, ↓e_Law_law_406, ↓e_Law_law_408, ↓e_Law_law_409, ↓e_Law_law_410, ↓e_Law_law_411, ↓e_Law_law_412, ↓e_Law_law_415, ↓e_Law_law_417, ↓e_Law_law_418, ↓e_Law_law_419, ↓e_Law_law_421, ↓e_Law_law_422, ↓e_Law_law_423, ↓e_Law_law_424, ↓e_Law_law_427, ↓e_Law_law_429, not_true_eq_false, not_false_eq_true, one0, true_or, or_true, eq_self, bI_z, bI_nz, bI_o, b_ft, bI_1, bI_0, ↓kC_l, ↓kC_r, Option.toList_some, Option.toList_none, List.cons_append, List.nil_append, s1_0, s1_1i, s1_1r, s1_1w, s1_1n, s1_s, s2_0, s2_1i, s2_1r, s2_1w, s2_1n, s2_s, gI_sI, gI_sR, gI_sL, gI_sD, gR_sI, gR_sR, gR_sL, gR_sD, gL_sI, gL_sR, gL_sL, gL_sD, gD_sI, gD_sR, gD_sL, gD_sD, isK_sI, isK_sR, isK_sL, isK_sD, inL_sI, inL_sR, inL_sL, inL_sD, nx_sI, nx_sR, nx_sL, nx_sD, kd_sI, kd_sR, kd_sL, kd_sD, ln_sI, ln_sR, ln_sL, ln_sD, ↓reduceIte, c8_n, c8_1, c8_2, c8_3, c8_4, Nat.reduceAdd, ii_succ, s1, j1, t1, a1, q1, g1, y1, k_s S, e1, R1.k, e2]
theorem d_exchange (I : LI L T h) (hT : 5 * T + 5 ≤ L) (hL : L ≤ 2560) (w5 w6 w7 w8 : Option MV) : ∃ h2 v5 v6 v7 v8, (∀ Q, WP Gm j_Law_law 432 [some (.inr (.inl (some 0))), some (.inr (.inl (some 1))), some (.inr (.inl (some 121))), some (.inr (.inl (some 125))), some (.inl (ii (5 * T))), w5, w6, w7, w8] [] h Q = WP Gm j_Law_law 996 [some (.inr (.inl (some 0))), some (.inr (.inl (some 1))), some (.inr (.inl (some 121))), some (.inr (.inl (some 125))), some (.inl (ii (5 * T))), v5, v6, v7, v8] [] h2 Q) ∧ LI L (T + 1) h2 := by
  obtain ⟨n, B, τ, p, c, b9, x9, p9, m, α, Lv, hB, W, R, O, t125, ⟨s1, s2⟩, rn, rs, M, V, Cv, Rv⟩ := I
  have b2 := R.b2
  have cb := R.cb
  have S := Lv.1.1.1
  have hn8 := n8 S
  have hnx : 121 ≤ nx h := S.1.1
  have hr : okR cM sM h 1 6 = true := ok_big (by omega) (by omega)
  have Cv0 := Cv.t hn8 0
  have j1 : inL h 0 (ii (5 * T + 1)) = true := inL_n (by omega) (by rw [s2]; omega)
  have t1 : (ii (5 * T + 1)).toNatClampNeg = 5 * T + 1 := ii_nat (by omega)
  have a1 : ii (5 * T) + 1 = ii (5 * T + 1) := ii_add _ 1
  obtain ⟨k, h1, e1, cc, k1, k2, Y⟩ := hv_exchange Lv hB W hr O Cv0  (gI h 0 (5 * T + 1))
  have R1 := R.cls cc
  have V1 := V.cls R.F cc
  have M1 := M.up cc (by omega) Lv.1.1.1.1.1
  have A1 := Rv.cls R cc
  have A2 := A1.th R1 0
  have n4 := cc.2.2.2.2.2.2.1
  have n5 := cc.2.2.2.2.2.2.2
  have q1 := cc_k cc s1
  have q2 : ln h1 0 = L := by rw [(cc.2.2.2.2.1 0 (isK_spec s1).1).2, s2]
  have g1 : inL h1 0 (ii (5 * T + 1)) = true := inL_n (by omega) (by rw [q2]; omega)
  have y1 : gI h1 0 (5 * T + 1) = gI h 0 (5 * T + 1) := (cc.2.2.2.1 0 _ (Or.inl rfl) (isK_spec s1).1).1
  obtain ⟨v, h2, e2, z1, z2, mo⟩ := qx_mexchange R1 A2  V1  (by omega) (by omega) (gI h 0 (5 * T + 1))
  refine ⟨h2, some (.inl k), some (.inl v), w7, w8, fun Q => ?_, li_go cc Y R O t125 ⟨s1, s2⟩ rn rs mo M1⟩
  simp only [↓e_Law_law_432, ↓e_Law_law_433, ↓e_Law_law_434, ↓e_Law_law_436, ↓e_Law_law_437, ↓e_Law_law_438, ↓e_Law_law_439, ↓e_Law_law_440, ↓e_Law_law_443, ↓e_Law_law_445, ↓e_Law_law_446, ↓e_Law_law_447, ↓e_Law_law_449, ↓e_Law_law_450, ↓e_Law_law_451, ↓e_Law_law_452, ↓e_Law_law_455, ↓e_Law_law_457, not_true_eq_false, not_false_eq_true, one0, true_or, or_true, eq_self, bI_z, bI_nz, bI_o, b_ft, bI_1, bI_0, ↓kC_l, ↓kC_r, Option.toList_some, Option.toList_none, List.cons_append, List.nil_append, s1_0, s1_1i, s1_1r, s1_1w, s1_1n, s1_s, s2_0, s2_1i, s2_1r, s2_1w, s2_1n, s2_s, gI_sI, gI_sR, gI_sL, gI_sD, gR_sI, gR_sR, gR_sL, gR_sD, gL_sI, gL_sR, gL_sL, gL_sD, gD_sI, gD_sR, gD_sL, gD_sD, isK_sI, isK_sR, isK_sL, isK_sD, inL_sI, inL_sR, inL_sL, inL_sD, nx_sI, nx_sR, nx_sL, nx_sD, kd_sI, kd_sR, kd_sL, kd_sD, ln_sI, ln_sR, ln_sL, ln_sD, ↓reduceIte, c8_n, c8_1, c8_2, c8_3, c8_4, Nat.reduceAdd, ii_succ, s1, j1, t1, a1, q1, g1, y1, k_s S, e1, R1.k, e2]
theorem d_bid (I : LI L T h) (hT : 5 * T + 5 ≤ L) (hL : L ≤ 2560) (w5 w6 w7 w8 : Option MV) : ∃ h2 v5 v6 v7 v8, (∀ Q, WP Gm j_Law_law 460 [some (.inr (.inl (some 0))), some (.inr (.inl (some 1))), some (.inr (.inl (some 121))), some (.inr (.inl (some 125))), some (.inl (ii (5 * T))), w5, w6, w7, w8] [] h Q = WP Gm j_Law_law 996 [some (.inr (.inl (some 0))), some (.inr (.inl (some 1))), some (.inr (.inl (some 121))), some (.inr (.inl (some 125))), some (.inl (ii (5 * T))), v5, v6, v7, v8] [] h2 Q) ∧ LI L (T + 1) h2 := by
  obtain ⟨n, B, τ, p, c, b9, x9, p9, m, α, Lv, hB, W, R, O, t125, ⟨s1, s2⟩, rn, rs, M, V, Cv, Rv⟩ := I
  have b2 := R.b2
  have cb := R.cb
  have S := Lv.1.1.1
  have hn8 := n8 S
  have hnx : 121 ≤ nx h := S.1.1
  have hr : okR cM sM h 1 6 = true := ok_big (by omega) (by omega)
  have j1 : inL h 0 (ii (5 * T + 1)) = true := inL_n (by omega) (by rw [s2]; omega)
  have t1 : (ii (5 * T + 1)).toNatClampNeg = 5 * T + 1 := ii_nat (by omega)
  have a1 : ii (5 * T) + 1 = ii (5 * T + 1) := ii_add _ 1
  have j2 : inL h 0 (ii (5 * T + 2)) = true := inL_n (by omega) (by rw [s2]; omega)
  have t2 : (ii (5 * T + 2)).toNatClampNeg = 5 * T + 2 := ii_nat (by omega)
  have a2 : ii (5 * T) + 2 = ii (5 * T + 2) := ii_add _ 2
  have j3 : inL h 0 (ii (5 * T + 3)) = true := inL_n (by omega) (by rw [s2]; omega)
  have t3 : (ii (5 * T + 3)).toNatClampNeg = 5 * T + 3 := ii_nat (by omega)
  have a3 : ii (5 * T) + 3 = ii (5 * T + 3) := ii_add _ 3
  obtain ⟨k, h1, e1, cc, Y0, sp⟩ := hk_bid Lv hB W hr O M (gI h 0 (5 * T + 1)) (gI h 0 (5 * T + 2)) (gI h 0 (5 * T + 3))
  have Y := Cv.ka hn8 Y0
  have R1 := R.cls cc
  have V1 := V.cls R.F cc
  have A1 := Rv.cls R cc
  have n4 := cc.2.2.2.2.2.2.1
  have n5 := cc.2.2.2.2.2.2.2
  have q1 := cc_k cc s1
  have q2 : ln h1 0 = L := by rw [(cc.2.2.2.2.1 0 (isK_spec s1).1).2, s2]
  have g1 : inL h1 0 (ii (5 * T + 1)) = true := inL_n (by omega) (by rw [q2]; omega)
  have y1 : gI h1 0 (5 * T + 1) = gI h 0 (5 * T + 1) := (cc.2.2.2.1 0 _ (Or.inl rfl) (isK_spec s1).1).1
  have g2 : inL h1 0 (ii (5 * T + 2)) = true := inL_n (by omega) (by rw [q2]; omega)
  have y2 : gI h1 0 (5 * T + 2) = gI h 0 (5 * T + 2) := (cc.2.2.2.1 0 _ (Or.inl rfl) (isK_spec s1).1).1
  have g3 : inL h1 0 (ii (5 * T + 3)) = true := inL_n (by omega) (by rw [q2]; omega)
  have y3 : gI h1 0 (5 * T + 3) = gI h 0 (5 * T + 3) := (cc.2.2.2.1 0 _ (Or.inl rfl) (isK_spec s1).1).1
  obtain ⟨v, h2, e2, sq⟩ := qa_mbid R1 V1 A1 (by omega) (by omega) (gI h 0 (5 * T + 1)) (gI h 0 (5 * T + 2)) (gI h 0 (5 * T + 3))
  have fin : ((gI h2 121 0 = k ∧ ¬ k = 0) ∨ (gI h2 121 0 = k ∧ k = 0 ∧ gL h2 125 0 = v.toInt64)) ∧ isK h2 121 kc_Mdl = true ∧ isK h2 125 kc_Out = true ∧ LI L (T + 1) h2 := by
    rcases sp with ⟨a1, a2, a3⟩ | ⟨a1, a2, a3, a4⟩ | ⟨a1, a2, a3, a4, a5⟩
    · rcases sq with ⟨d1, d2, d3⟩ | ⟨d1, -⟩ | ⟨d1, -⟩
      · exact ⟨Or.inl ⟨d2.trans a2.symm, by rw [a2]; decide⟩, mo_k d3.g, mo_o d3.g (cc_k cc O), li_go cc Y R O t125 ⟨s1, s2⟩ rn rs d3 a3⟩
      · rw [a1] at d1; cases d1
      · rw [a1] at d1; cases d1
    · rcases sq with ⟨d1, -⟩ | ⟨d1, d2, d3, d4⟩ | ⟨d1, d2, -⟩
      · rw [a1] at d1; cases d1
      · exact ⟨Or.inl ⟨d3.trans a3.symm, by rw [a3]; decide⟩, mo_k d4.g, mo_o d4.g (cc_k cc O), li_go cc Y R O t125 ⟨s1, s2⟩ rn rs d4 a4⟩
      · omega
    · rcases sq with ⟨d1, -⟩ | ⟨d1, d2, -⟩ | ⟨d1, d2, d3, d4, d5⟩
      · rw [a1] at d1; cases d1
      · omega
      · obtain ⟨b, w, q, ex, ey, ez, hb, hw1, hw2, hq1, hq2⟩ := bid_nums a1
        have he : ∀ k, k < m → (fun k => if k = m then b else b9 k) k = b9 k ∧ (fun k => if k = m then w else x9 k) k = x9 k ∧ (fun k => if k = m then q else p9 k) k = p9 k := fun k hk => ⟨if_neg (by omega), if_neg (by omega), if_neg (by omega)⟩
        have ho : okB (fun k => if k = m then b else b9 k) (fun k => if k = m then w else x9 k) (fun k => if k = m then q else p9 k) m := by
          unfold okB
          simp only [eq_self, ↓reduceIte]
          omega
        have M2 := a5 _ _ _ he (by rw [if_pos rfl]; exact ex) (by rw [if_pos rfl]; exact ey) (by rw [if_pos rfl]; exact ez) ho
        have mo := d5 _ _ _ he (by rw [if_pos rfl]; exact ex) (by rw [if_pos rfl]; exact ey) (by rw [if_pos rfl]; exact ez) ho
        exact ⟨Or.inr ⟨d3.trans a3.symm, a3, by rw [mo_l mo.g t125, a4, d4]⟩, mo_k mo.g, mo_o mo.g (cc_k cc O), li_go cc Y R O t125 ⟨s1, s2⟩ rn rs mo M2⟩
  obtain ⟨link, K2, O2, I2⟩ := fin
  refine ⟨h2, some (.inl k), some (.inl v), w7, w8, fun Q => ?_, I2⟩
  simp only [↓e_Law_law_460, ↓e_Law_law_461, ↓e_Law_law_462, ↓e_Law_law_464, ↓e_Law_law_465, ↓e_Law_law_466, ↓e_Law_law_467, ↓e_Law_law_468, ↓e_Law_law_470, ↓e_Law_law_471, ↓e_Law_law_472, ↓e_Law_law_473, ↓e_Law_law_474, ↓e_Law_law_476, ↓e_Law_law_477, ↓e_Law_law_478, ↓e_Law_law_479, ↓e_Law_law_480, ↓e_Law_law_483, ↓e_Law_law_485, ↓e_Law_law_486, ↓e_Law_law_487, ↓e_Law_law_489, ↓e_Law_law_490, ↓e_Law_law_491, ↓e_Law_law_492, ↓e_Law_law_493, ↓e_Law_law_495, ↓e_Law_law_496, ↓e_Law_law_497, ↓e_Law_law_498, ↓e_Law_law_499, ↓e_Law_law_501, ↓e_Law_law_502, ↓e_Law_law_503, ↓e_Law_law_504, ↓e_Law_law_507, ↓e_Law_law_509, not_true_eq_false, not_false_eq_true, one0, true_or, or_true, eq_self, bI_z, bI_nz, bI_o, b_ft, bI_1, bI_0, ↓kC_l, ↓kC_r, Option.toList_some, Option.toList_none, List.cons_append, List.nil_append, s1_0, s1_1i, s1_1r, s1_1w, s1_1n, s1_s, s2_0, s2_1i, s2_1r, s2_1w, s2_1n, s2_s, gI_sI, gI_sR, gI_sL, gI_sD, gR_sI, gR_sR, gR_sL, gR_sD, gL_sI, gL_sR, gL_sL, gL_sD, gD_sI, gD_sR, gD_sL, gD_sD, isK_sI, isK_sR, isK_sL, isK_sD, inL_sI, inL_sR, inL_sL, inL_sD, nx_sI, nx_sR, nx_sL, nx_sD, kd_sI, kd_sR, kd_sL, kd_sD, ln_sI, ln_sR, ln_sL, ln_sD, ↓reduceIte, c8_n, c8_1, c8_2, c8_3, c8_4, Nat.reduceAdd, ii_succ, s1, j1, t1, a1, j2, t2, a2, j3, t3, a3, q1, g1, y1, g2, y2, g3, y3, k_s S, e1, R1.k, e2]
theorem d_hears (I : LI L T h) (hT : 5 * T + 5 ≤ L) (hL : L ≤ 2560) (w5 w6 w7 w8 : Option MV) : ∃ h2 v5 v6 v7 v8, (∀ Q, WP Gm j_Law_law 538 [some (.inr (.inl (some 0))), some (.inr (.inl (some 1))), some (.inr (.inl (some 121))), some (.inr (.inl (some 125))), some (.inl (ii (5 * T))), w5, w6, w7, w8] [] h Q = WP Gm j_Law_law 996 [some (.inr (.inl (some 0))), some (.inr (.inl (some 1))), some (.inr (.inl (some 121))), some (.inr (.inl (some 125))), some (.inl (ii (5 * T))), v5, v6, v7, v8] [] h2 Q) ∧ LI L (T + 1) h2 := by
  obtain ⟨n, B, τ, p, c, b9, x9, p9, m, α, Lv, hB, W, R, O, t125, ⟨s1, s2⟩, rn, rs, M, V, Cv, Rv⟩ := I
  have b2 := R.b2
  have cb := R.cb
  have S := Lv.1.1.1
  have hn8 := n8 S
  have hnx : 121 ≤ nx h := S.1.1
  have hr : okR cM sM h 1 6 = true := ok_big (by omega) (by omega)
  have Cv0 := Cv.t hn8 0
  have j1 : inL h 0 (ii (5 * T + 1)) = true := inL_n (by omega) (by rw [s2]; omega)
  have t1 : (ii (5 * T + 1)).toNatClampNeg = 5 * T + 1 := ii_nat (by omega)
  have a1 : ii (5 * T) + 1 = ii (5 * T + 1) := ii_add _ 1
  have j2 : inL h 0 (ii (5 * T + 2)) = true := inL_n (by omega) (by rw [s2]; omega)
  have t2 : (ii (5 * T + 2)).toNatClampNeg = 5 * T + 2 := ii_nat (by omega)
  have a2 : ii (5 * T) + 2 = ii (5 * T + 2) := ii_add _ 2
  obtain ⟨k, h1, e1, cc, k1, k2, Y⟩ := hv_hears Lv hB W hr O Cv0  (gI h 0 (5 * T + 1)) (gI h 0 (5 * T + 2))
  have R1 := R.cls cc
  have V1 := V.cls R.F cc
  have M1 := M.up cc (by omega) Lv.1.1.1.1.1
  have A1 := Rv.cls R cc
  have A2 := A1.th R1 0
  have n4 := cc.2.2.2.2.2.2.1
  have n5 := cc.2.2.2.2.2.2.2
  have q1 := cc_k cc s1
  have q2 : ln h1 0 = L := by rw [(cc.2.2.2.2.1 0 (isK_spec s1).1).2, s2]
  have g1 : inL h1 0 (ii (5 * T + 1)) = true := inL_n (by omega) (by rw [q2]; omega)
  have y1 : gI h1 0 (5 * T + 1) = gI h 0 (5 * T + 1) := (cc.2.2.2.1 0 _ (Or.inl rfl) (isK_spec s1).1).1
  have g2 : inL h1 0 (ii (5 * T + 2)) = true := inL_n (by omega) (by rw [q2]; omega)
  have y2 : gI h1 0 (5 * T + 2) = gI h 0 (5 * T + 2) := (cc.2.2.2.1 0 _ (Or.inl rfl) (isK_spec s1).1).1
  obtain ⟨v, h2, e2, z1, z2, mo⟩ := qx_mhears R1 A2  V1  (by omega) (by omega) (gI h 0 (5 * T + 1)) (gI h 0 (5 * T + 2))
  refine ⟨h2, some (.inl k), some (.inl v), w7, w8, fun Q => ?_, li_go cc Y R O t125 ⟨s1, s2⟩ rn rs mo M1⟩
  simp only [↓e_Law_law_538, ↓e_Law_law_539, ↓e_Law_law_540, ↓e_Law_law_542, ↓e_Law_law_543, ↓e_Law_law_544, ↓e_Law_law_545, ↓e_Law_law_546, ↓e_Law_law_548, ↓e_Law_law_549, ↓e_Law_law_550, ↓e_Law_law_551, ↓e_Law_law_552, ↓e_Law_law_555, ↓e_Law_law_557, ↓e_Law_law_558, ↓e_Law_law_559, ↓e_Law_law_561, ↓e_Law_law_562, ↓e_Law_law_563, ↓e_Law_law_564, ↓e_Law_law_565, ↓e_Law_law_567, ↓e_Law_law_568, ↓e_Law_law_569, ↓e_Law_law_570, ↓e_Law_law_573, ↓e_Law_law_575, not_true_eq_false, not_false_eq_true, one0, true_or, or_true, eq_self, bI_z, bI_nz, bI_o, b_ft, bI_1, bI_0, ↓kC_l, ↓kC_r, Option.toList_some, Option.toList_none, List.cons_append, List.nil_append, s1_0, s1_1i, s1_1r, s1_1w, s1_1n, s1_s, s2_0, s2_1i, s2_1r, s2_1w, s2_1n, s2_s, gI_sI, gI_sR, gI_sL, gI_sD, gR_sI, gR_sR, gR_sL, gR_sD, gL_sI, gL_sR, gL_sL, gL_sD, gD_sI, gD_sR, gD_sL, gD_sD, isK_sI, isK_sR, isK_sL, isK_sD, inL_sI, inL_sR, inL_sL, inL_sD, nx_sI, nx_sR, nx_sL, nx_sD, kd_sI, kd_sR, kd_sL, kd_sD, ln_sI, ln_sR, ln_sL, ln_sD, ↓reduceIte, c8_n, c8_1, c8_2, c8_3, c8_4, Nat.reduceAdd, ii_succ, s1, j1, t1, a1, j2, t2, a2, q1, g1, y1, g2, y2, k_s S, e1, R1.k, e2]
theorem d_ofNode (I : LI L T h) (hT : 5 * T + 5 ≤ L) (hL : L ≤ 2560) (w5 w6 w7 w8 : Option MV) : ∃ h2 v5 v6 v7 v8, (∀ Q, WP Gm j_Law_law 578 [some (.inr (.inl (some 0))), some (.inr (.inl (some 1))), some (.inr (.inl (some 121))), some (.inr (.inl (some 125))), some (.inl (ii (5 * T))), w5, w6, w7, w8] [] h Q = WP Gm j_Law_law 996 [some (.inr (.inl (some 0))), some (.inr (.inl (some 1))), some (.inr (.inl (some 121))), some (.inr (.inl (some 125))), some (.inl (ii (5 * T))), v5, v6, v7, v8] [] h2 Q) ∧ LI L (T + 1) h2 := by
  obtain ⟨n, B, τ, p, c, b9, x9, p9, m, α, Lv, hB, W, R, O, t125, ⟨s1, s2⟩, rn, rs, M, V, Cv, Rv⟩ := I
  have b2 := R.b2
  have cb := R.cb
  have S := Lv.1.1.1
  have hn8 := n8 S
  have hnx : 121 ≤ nx h := S.1.1
  have hr : okR cM sM h 1 6 = true := ok_big (by omega) (by omega)
  have Cv0 := Cv.t hn8 0
  have C9 := lv_num Lv hB Cv0
  have j1 : inL h 0 (ii (5 * T + 1)) = true := inL_n (by omega) (by rw [s2]; omega)
  have t1 : (ii (5 * T + 1)).toNatClampNeg = 5 * T + 1 := ii_nat (by omega)
  have a1 : ii (5 * T) + 1 = ii (5 * T + 1) := ii_add _ 1
  have j2 : inL h 0 (ii (5 * T + 2)) = true := inL_n (by omega) (by rw [s2]; omega)
  have t2 : (ii (5 * T + 2)).toNatClampNeg = 5 * T + 2 := ii_nat (by omega)
  have a2 : ii (5 * T) + 2 = ii (5 * T + 2) := ii_add _ 2
  obtain ⟨k, h1, e1, cc, k1, k2, Y⟩ := hv_ofNode Lv hB W hr O Cv0 C9 (gI h 0 (5 * T + 1)) (gI h 0 (5 * T + 2))
  have R1 := R.cls cc
  have V1 := V.cls R.F cc
  have M1 := M.up cc (by omega) Lv.1.1.1.1.1
  have A1 := Rv.cls R cc
  have A2 := A1.th R1 0
  have n4 := cc.2.2.2.2.2.2.1
  have n5 := cc.2.2.2.2.2.2.2
  have q1 := cc_k cc s1
  have q2 : ln h1 0 = L := by rw [(cc.2.2.2.2.1 0 (isK_spec s1).1).2, s2]
  have g1 : inL h1 0 (ii (5 * T + 1)) = true := inL_n (by omega) (by rw [q2]; omega)
  have y1 : gI h1 0 (5 * T + 1) = gI h 0 (5 * T + 1) := (cc.2.2.2.1 0 _ (Or.inl rfl) (isK_spec s1).1).1
  have g2 : inL h1 0 (ii (5 * T + 2)) = true := inL_n (by omega) (by rw [q2]; omega)
  have y2 : gI h1 0 (5 * T + 2) = gI h 0 (5 * T + 2) := (cc.2.2.2.1 0 _ (Or.inl rfl) (isK_spec s1).1).1
  obtain ⟨v, h2, e2, z1, z2, mo⟩ := qx_mofNode R1 A2  V1  (by omega) (by omega) (gI h 0 (5 * T + 1)) (gI h 0 (5 * T + 2))
  refine ⟨h2, some (.inl k), some (.inl v), w7, w8, fun Q => ?_, li_go cc Y R O t125 ⟨s1, s2⟩ rn rs mo M1⟩
  simp only [↓e_Law_law_578, ↓e_Law_law_579, ↓e_Law_law_580, ↓e_Law_law_582, ↓e_Law_law_583, ↓e_Law_law_584, ↓e_Law_law_585, ↓e_Law_law_586, ↓e_Law_law_588, ↓e_Law_law_589, ↓e_Law_law_590, ↓e_Law_law_591, ↓e_Law_law_592, ↓e_Law_law_595, ↓e_Law_law_597, ↓e_Law_law_598, ↓e_Law_law_599, ↓e_Law_law_601, ↓e_Law_law_602, ↓e_Law_law_603, ↓e_Law_law_604, ↓e_Law_law_605, ↓e_Law_law_607, ↓e_Law_law_608, ↓e_Law_law_609, ↓e_Law_law_610, ↓e_Law_law_613, ↓e_Law_law_615, not_true_eq_false, not_false_eq_true, one0, true_or, or_true, eq_self, bI_z, bI_nz, bI_o, b_ft, bI_1, bI_0, ↓kC_l, ↓kC_r, Option.toList_some, Option.toList_none, List.cons_append, List.nil_append, s1_0, s1_1i, s1_1r, s1_1w, s1_1n, s1_s, s2_0, s2_1i, s2_1r, s2_1w, s2_1n, s2_s, gI_sI, gI_sR, gI_sL, gI_sD, gR_sI, gR_sR, gR_sL, gR_sD, gL_sI, gL_sR, gL_sL, gL_sD, gD_sI, gD_sR, gD_sL, gD_sD, isK_sI, isK_sR, isK_sL, isK_sD, inL_sI, inL_sR, inL_sL, inL_sD, nx_sI, nx_sR, nx_sL, nx_sD, kd_sI, kd_sR, kd_sL, kd_sD, ln_sI, ln_sR, ln_sL, ln_sD, ↓reduceIte, c8_n, c8_1, c8_2, c8_3, c8_4, Nat.reduceAdd, ii_succ, s1, j1, t1, a1, j2, t2, a2, q1, g1, y1, g2, y2, k_s S, e1, R1.k, e2]
theorem d_inQueue (I : LI L T h) (hT : 5 * T + 5 ≤ L) (hL : L ≤ 2560) (w5 w6 w7 w8 : Option MV) : ∃ h2 v5 v6 v7 v8, (∀ Q, WP Gm j_Law_law 618 [some (.inr (.inl (some 0))), some (.inr (.inl (some 1))), some (.inr (.inl (some 121))), some (.inr (.inl (some 125))), some (.inl (ii (5 * T))), w5, w6, w7, w8] [] h Q = WP Gm j_Law_law 996 [some (.inr (.inl (some 0))), some (.inr (.inl (some 1))), some (.inr (.inl (some 121))), some (.inr (.inl (some 125))), some (.inl (ii (5 * T))), v5, v6, v7, v8] [] h2 Q) ∧ LI L (T + 1) h2 := by
  obtain ⟨n, B, τ, p, c, b9, x9, p9, m, α, Lv, hB, W, R, O, t125, ⟨s1, s2⟩, rn, rs, M, V, Cv, Rv⟩ := I
  have b2 := R.b2
  have cb := R.cb
  have S := Lv.1.1.1
  have hn8 := n8 S
  have hnx : 121 ≤ nx h := S.1.1
  have hr : okR cM sM h 1 6 = true := ok_big (by omega) (by omega)
  have Cv0 := Cv.t hn8 0
  have W0 := ai_vq Lv.1.1 Cv0
  have j1 : inL h 0 (ii (5 * T + 1)) = true := inL_n (by omega) (by rw [s2]; omega)
  have t1 : (ii (5 * T + 1)).toNatClampNeg = 5 * T + 1 := ii_nat (by omega)
  have a1 : ii (5 * T) + 1 = ii (5 * T + 1) := ii_add _ 1
  have j2 : inL h 0 (ii (5 * T + 2)) = true := inL_n (by omega) (by rw [s2]; omega)
  have t2 : (ii (5 * T + 2)).toNatClampNeg = 5 * T + 2 := ii_nat (by omega)
  have a2 : ii (5 * T) + 2 = ii (5 * T + 2) := ii_add _ 2
  have j3 : inL h 0 (ii (5 * T + 3)) = true := inL_n (by omega) (by rw [s2]; omega)
  have t3 : (ii (5 * T + 3)).toNatClampNeg = 5 * T + 3 := ii_nat (by omega)
  have a3 : ii (5 * T) + 3 = ii (5 * T + 3) := ii_add _ 3
  obtain ⟨k, h1, e1, cc, k1, k2, Y⟩ := hv_inQueue Lv hB W hr O Cv0  (gI h 0 (5 * T + 1)) (gI h 0 (5 * T + 2)) (gI h 0 (5 * T + 3))
  have R1 := R.cls cc
  have V1 := V.cls R.F cc
  have M1 := M.up cc (by omega) Lv.1.1.1.1.1
  have A1 := Rv.cls R cc
  have A2 := A1.th R1 0
  have n4 := cc.2.2.2.2.2.2.1
  have n5 := cc.2.2.2.2.2.2.2
  have q1 := cc_k cc s1
  have q2 : ln h1 0 = L := by rw [(cc.2.2.2.2.1 0 (isK_spec s1).1).2, s2]
  have g1 : inL h1 0 (ii (5 * T + 1)) = true := inL_n (by omega) (by rw [q2]; omega)
  have y1 : gI h1 0 (5 * T + 1) = gI h 0 (5 * T + 1) := (cc.2.2.2.1 0 _ (Or.inl rfl) (isK_spec s1).1).1
  have g2 : inL h1 0 (ii (5 * T + 2)) = true := inL_n (by omega) (by rw [q2]; omega)
  have y2 : gI h1 0 (5 * T + 2) = gI h 0 (5 * T + 2) := (cc.2.2.2.1 0 _ (Or.inl rfl) (isK_spec s1).1).1
  have g3 : inL h1 0 (ii (5 * T + 3)) = true := inL_n (by omega) (by rw [q2]; omega)
  have y3 : gI h1 0 (5 * T + 3) = gI h 0 (5 * T + 3) := (cc.2.2.2.1 0 _ (Or.inl rfl) (isK_spec s1).1).1
  obtain ⟨v, h2, e2, z1, z2, mo⟩ := qx_minQueue R1 A2  V1 W0 (by omega) (by omega) (gI h 0 (5 * T + 1)) (gI h 0 (5 * T + 2)) (gI h 0 (5 * T + 3))
  refine ⟨h2, some (.inl k), some (.inl v), w7, w8, fun Q => ?_, li_go cc Y R O t125 ⟨s1, s2⟩ rn rs mo M1⟩
  simp only [↓e_Law_law_618, ↓e_Law_law_619, ↓e_Law_law_620, ↓e_Law_law_622, ↓e_Law_law_623, ↓e_Law_law_624, ↓e_Law_law_625, ↓e_Law_law_626, ↓e_Law_law_628, ↓e_Law_law_629, ↓e_Law_law_630, ↓e_Law_law_631, ↓e_Law_law_632, ↓e_Law_law_634, ↓e_Law_law_635, ↓e_Law_law_636, ↓e_Law_law_637, ↓e_Law_law_638, ↓e_Law_law_641, ↓e_Law_law_643, ↓e_Law_law_644, ↓e_Law_law_645, ↓e_Law_law_647, ↓e_Law_law_648, ↓e_Law_law_649, ↓e_Law_law_650, ↓e_Law_law_651, ↓e_Law_law_653, ↓e_Law_law_654, ↓e_Law_law_655, ↓e_Law_law_656, ↓e_Law_law_657, ↓e_Law_law_659, ↓e_Law_law_660, ↓e_Law_law_661, ↓e_Law_law_662, ↓e_Law_law_665, ↓e_Law_law_667, not_true_eq_false, not_false_eq_true, one0, true_or, or_true, eq_self, bI_z, bI_nz, bI_o, b_ft, bI_1, bI_0, ↓kC_l, ↓kC_r, Option.toList_some, Option.toList_none, List.cons_append, List.nil_append, s1_0, s1_1i, s1_1r, s1_1w, s1_1n, s1_s, s2_0, s2_1i, s2_1r, s2_1w, s2_1n, s2_s, gI_sI, gI_sR, gI_sL, gI_sD, gR_sI, gR_sR, gR_sL, gR_sD, gL_sI, gL_sR, gL_sL, gL_sD, gD_sI, gD_sR, gD_sL, gD_sD, isK_sI, isK_sR, isK_sL, isK_sD, inL_sI, inL_sR, inL_sL, inL_sD, nx_sI, nx_sR, nx_sL, nx_sD, kd_sI, kd_sR, kd_sL, kd_sD, ln_sI, ln_sR, ln_sL, ln_sD, ↓reduceIte, c8_n, c8_1, c8_2, c8_3, c8_4, Nat.reduceAdd, ii_succ, s1, j1, t1, a1, j2, t2, a2, j3, t3, a3, q1, g1, y1, g2, y2, g3, y3, k_s S, e1, R1.k, e2]
theorem d_route (I : LI L T h) (hT : 5 * T + 5 ≤ L) (hL : L ≤ 2560) (w5 w6 w7 w8 : Option MV) : ∃ h2 v5 v6 v7 v8, (∀ Q, WP Gm j_Law_law 670 [some (.inr (.inl (some 0))), some (.inr (.inl (some 1))), some (.inr (.inl (some 121))), some (.inr (.inl (some 125))), some (.inl (ii (5 * T))), w5, w6, w7, w8] [] h Q = WP Gm j_Law_law 996 [some (.inr (.inl (some 0))), some (.inr (.inl (some 1))), some (.inr (.inl (some 121))), some (.inr (.inl (some 125))), some (.inl (ii (5 * T))), v5, v6, v7, v8] [] h2 Q) ∧ LI L (T + 1) h2 := by
  obtain ⟨n, B, τ, p, c, b9, x9, p9, m, α, Lv, hB, W, R, O, t125, ⟨s1, s2⟩, rn, rs, M, V, Cv, Rv⟩ := I
  have b2 := R.b2
  have cb := R.cb
  have S := Lv.1.1.1
  have hn8 := n8 S
  have hnx : 121 ≤ nx h := S.1.1
  have hr : okR cM sM h 1 6 = true := ok_big (by omega) (by omega)
  have Cv0 := Cv.t hn8 0
  have j1 : inL h 0 (ii (5 * T + 1)) = true := inL_n (by omega) (by rw [s2]; omega)
  have t1 : (ii (5 * T + 1)).toNatClampNeg = 5 * T + 1 := ii_nat (by omega)
  have a1 : ii (5 * T) + 1 = ii (5 * T + 1) := ii_add _ 1
  have j2 : inL h 0 (ii (5 * T + 2)) = true := inL_n (by omega) (by rw [s2]; omega)
  have t2 : (ii (5 * T + 2)).toNatClampNeg = 5 * T + 2 := ii_nat (by omega)
  have a2 : ii (5 * T) + 2 = ii (5 * T + 2) := ii_add _ 2
  have j3 : inL h 0 (ii (5 * T + 3)) = true := inL_n (by omega) (by rw [s2]; omega)
  have t3 : (ii (5 * T + 3)).toNatClampNeg = 5 * T + 3 := ii_nat (by omega)
  have a3 : ii (5 * T) + 3 = ii (5 * T + 3) := ii_add _ 3
  obtain ⟨k, h1, e1, cc, k1, k2, Y⟩ := hv_route Lv hB W hr O Cv0  (gI h 0 (5 * T + 1)) (gI h 0 (5 * T + 2)) (gI h 0 (5 * T + 3))
  have R1 := R.cls cc
  have V1 := V.cls R.F cc
  have M1 := M.up cc (by omega) Lv.1.1.1.1.1
  have A1 := Rv.cls R cc
  have A2 := A1.th R1 0
  have n4 := cc.2.2.2.2.2.2.1
  have n5 := cc.2.2.2.2.2.2.2
  have q1 := cc_k cc s1
  have q2 : ln h1 0 = L := by rw [(cc.2.2.2.2.1 0 (isK_spec s1).1).2, s2]
  have g1 : inL h1 0 (ii (5 * T + 1)) = true := inL_n (by omega) (by rw [q2]; omega)
  have y1 : gI h1 0 (5 * T + 1) = gI h 0 (5 * T + 1) := (cc.2.2.2.1 0 _ (Or.inl rfl) (isK_spec s1).1).1
  have g2 : inL h1 0 (ii (5 * T + 2)) = true := inL_n (by omega) (by rw [q2]; omega)
  have y2 : gI h1 0 (5 * T + 2) = gI h 0 (5 * T + 2) := (cc.2.2.2.1 0 _ (Or.inl rfl) (isK_spec s1).1).1
  have g3 : inL h1 0 (ii (5 * T + 3)) = true := inL_n (by omega) (by rw [q2]; omega)
  have y3 : gI h1 0 (5 * T + 3) = gI h 0 (5 * T + 3) := (cc.2.2.2.1 0 _ (Or.inl rfl) (isK_spec s1).1).1
  obtain ⟨v, h2, e2, z1, z2, mo⟩ := qx_mroute R1 A2  V1  (by omega) (by omega) (gI h 0 (5 * T + 1)) (gI h 0 (5 * T + 2)) (gI h 0 (5 * T + 3))
  refine ⟨h2, some (.inl k), some (.inl v), w7, w8, fun Q => ?_, li_go cc Y R O t125 ⟨s1, s2⟩ rn rs mo M1⟩
  simp only [↓e_Law_law_670, ↓e_Law_law_671, ↓e_Law_law_672, ↓e_Law_law_674, ↓e_Law_law_675, ↓e_Law_law_676, ↓e_Law_law_677, ↓e_Law_law_678, ↓e_Law_law_680, ↓e_Law_law_681, ↓e_Law_law_682, ↓e_Law_law_683, ↓e_Law_law_684, ↓e_Law_law_686, ↓e_Law_law_687, ↓e_Law_law_688, ↓e_Law_law_689, ↓e_Law_law_690, ↓e_Law_law_693, ↓e_Law_law_695, ↓e_Law_law_696, ↓e_Law_law_697, ↓e_Law_law_699, ↓e_Law_law_700, ↓e_Law_law_701, ↓e_Law_law_702, ↓e_Law_law_703, ↓e_Law_law_705, ↓e_Law_law_706, ↓e_Law_law_707, ↓e_Law_law_708, ↓e_Law_law_709, ↓e_Law_law_711, ↓e_Law_law_712, ↓e_Law_law_713, ↓e_Law_law_714, ↓e_Law_law_717, ↓e_Law_law_719, not_true_eq_false, not_false_eq_true, one0, true_or, or_true, eq_self, bI_z, bI_nz, bI_o, b_ft, bI_1, bI_0, ↓kC_l, ↓kC_r, Option.toList_some, Option.toList_none, List.cons_append, List.nil_append, s1_0, s1_1i, s1_1r, s1_1w, s1_1n, s1_s, s2_0, s2_1i, s2_1r, s2_1w, s2_1n, s2_s, gI_sI, gI_sR, gI_sL, gI_sD, gR_sI, gR_sR, gR_sL, gR_sD, gL_sI, gL_sR, gL_sL, gL_sD, gD_sI, gD_sR, gD_sL, gD_sD, isK_sI, isK_sR, isK_sL, isK_sD, inL_sI, inL_sR, inL_sL, inL_sD, nx_sI, nx_sR, nx_sL, nx_sD, kd_sI, kd_sR, kd_sL, kd_sD, ln_sI, ln_sR, ln_sL, ln_sD, ↓reduceIte, c8_n, c8_1, c8_2, c8_3, c8_4, Nat.reduceAdd, ii_succ, s1, j1, t1, a1, j2, t2, a2, j3, t3, a3, q1, g1, y1, g2, y2, g3, y3, k_s S, e1, R1.k, e2]
theorem d_air (I : LI L T h) (hT : 5 * T + 5 ≤ L) (hL : L ≤ 2560) (w5 w6 w7 w8 : Option MV) : ∃ h2 v5 v6 v7 v8, (∀ Q, WP Gm j_Law_law 722 [some (.inr (.inl (some 0))), some (.inr (.inl (some 1))), some (.inr (.inl (some 121))), some (.inr (.inl (some 125))), some (.inl (ii (5 * T))), w5, w6, w7, w8] [] h Q = WP Gm j_Law_law 996 [some (.inr (.inl (some 0))), some (.inr (.inl (some 1))), some (.inr (.inl (some 121))), some (.inr (.inl (some 125))), some (.inl (ii (5 * T))), v5, v6, v7, v8] [] h2 Q) ∧ LI L (T + 1) h2 := by
  obtain ⟨n, B, τ, p, c, b9, x9, p9, m, α, Lv, hB, W, R, O, t125, ⟨s1, s2⟩, rn, rs, M, V, Cv, Rv⟩ := I
  have b2 := R.b2
  have cb := R.cb
  have S := Lv.1.1.1
  have hn8 := n8 S
  have hnx : 121 ≤ nx h := S.1.1
  have hr : okR cM sM h 1 6 = true := ok_big (by omega) (by omega)
  have j1 : inL h 0 (ii (5 * T + 1)) = true := inL_n (by omega) (by rw [s2]; omega)
  have t1 : (ii (5 * T + 1)).toNatClampNeg = 5 * T + 1 := ii_nat (by omega)
  have a1 : ii (5 * T) + 1 = ii (5 * T + 1) := ii_add _ 1
  obtain ⟨k, h1, e1, cc, Y0⟩ := hk_air Lv hB W hr O (gI h 0 (5 * T + 1))
  have Y := Cv.ka hn8 Y0
  have R1 := R.cls cc
  have V1 := V.cls R.F cc
  have M1 := M.up cc (by omega) Lv.1.1.1.1.1
  have A1 := Rv.cls R cc
  have n4 := cc.2.2.2.2.2.2.1
  have n5 := cc.2.2.2.2.2.2.2
  have q1 := cc_k cc s1
  have q2 : ln h1 0 = L := by rw [(cc.2.2.2.2.1 0 (isK_spec s1).1).2, s2]
  have g1 : inL h1 0 (ii (5 * T + 1)) = true := inL_n (by omega) (by rw [q2]; omega)
  have y1 : gI h1 0 (5 * T + 1) = gI h 0 (5 * T + 1) := (cc.2.2.2.1 0 _ (Or.inl rfl) (isK_spec s1).1).1
  obtain ⟨v, h2, e2, J⟩ := qj_mair R1 (by omega) (by omega) (gI h 0 (5 * T + 1))
  have mo := MoA.jt R1 A1 V1 J
  refine ⟨h2, some (.inl k), some (.inl v), w7, w8, fun Q => ?_, li_go cc Y R O t125 ⟨s1, s2⟩ rn rs mo M1⟩
  simp only [↓e_Law_law_722, ↓e_Law_law_723, ↓e_Law_law_724, ↓e_Law_law_726, ↓e_Law_law_727, ↓e_Law_law_728, ↓e_Law_law_729, ↓e_Law_law_730, ↓e_Law_law_733, ↓e_Law_law_735, ↓e_Law_law_736, ↓e_Law_law_737, ↓e_Law_law_739, ↓e_Law_law_740, ↓e_Law_law_741, ↓e_Law_law_742, ↓e_Law_law_745, ↓e_Law_law_747, not_true_eq_false, not_false_eq_true, one0, true_or, or_true, eq_self, bI_z, bI_nz, bI_o, b_ft, bI_1, bI_0, ↓kC_l, ↓kC_r, Option.toList_some, Option.toList_none, List.cons_append, List.nil_append, s1_0, s1_1i, s1_1r, s1_1w, s1_1n, s1_s, s2_0, s2_1i, s2_1r, s2_1w, s2_1n, s2_s, gI_sI, gI_sR, gI_sL, gI_sD, gR_sI, gR_sR, gR_sL, gR_sD, gL_sI, gL_sR, gL_sL, gL_sD, gD_sI, gD_sR, gD_sL, gD_sD, isK_sI, isK_sR, isK_sL, isK_sD, inL_sI, inL_sR, inL_sL, inL_sD, nx_sI, nx_sR, nx_sL, nx_sD, kd_sI, kd_sR, kd_sL, kd_sD, ln_sI, ln_sR, ln_sL, ln_sD, ↓reduceIte, c8_n, c8_1, c8_2, c8_3, c8_4, Nat.reduceAdd, ii_succ, s1, j1, t1, a1, q1, g1, y1, k_s S, e1, R1.k, e2]
theorem d_delivered (I : LI L T h) (hT : 5 * T + 5 ≤ L) (hL : L ≤ 2560) (w5 w6 w7 w8 : Option MV) : ∃ h2 v5 v6 v7 v8, (∀ Q, WP Gm j_Law_law 750 [some (.inr (.inl (some 0))), some (.inr (.inl (some 1))), some (.inr (.inl (some 121))), some (.inr (.inl (some 125))), some (.inl (ii (5 * T))), w5, w6, w7, w8] [] h Q = WP Gm j_Law_law 996 [some (.inr (.inl (some 0))), some (.inr (.inl (some 1))), some (.inr (.inl (some 121))), some (.inr (.inl (some 125))), some (.inl (ii (5 * T))), v5, v6, v7, v8] [] h2 Q) ∧ LI L (T + 1) h2 := by
  obtain ⟨n, B, τ, p, c, b9, x9, p9, m, α, Lv, hB, W, R, O, t125, ⟨s1, s2⟩, rn, rs, M, V, Cv, Rv⟩ := I
  have b2 := R.b2
  have cb := R.cb
  have S := Lv.1.1.1
  have hn8 := n8 S
  have hnx : 121 ≤ nx h := S.1.1
  have hr : okR cM sM h 1 6 = true := ok_big (by omega) (by omega)
  have Cv0 := Cv.t hn8 0
  have hs5 := hs_all Lv.1.1 Cv0
  have j1 : inL h 0 (ii (5 * T + 1)) = true := inL_n (by omega) (by rw [s2]; omega)
  have t1 : (ii (5 * T + 1)).toNatClampNeg = 5 * T + 1 := ii_nat (by omega)
  have a1 : ii (5 * T) + 1 = ii (5 * T + 1) := ii_add _ 1
  have j2 : inL h 0 (ii (5 * T + 2)) = true := inL_n (by omega) (by rw [s2]; omega)
  have t2 : (ii (5 * T + 2)).toNatClampNeg = 5 * T + 2 := ii_nat (by omega)
  have a2 : ii (5 * T) + 2 = ii (5 * T + 2) := ii_add _ 2
  obtain ⟨k, h1, e1, cc, k1, k2, Y⟩ := hv_delivered Lv hB W hr O Cv0  (gI h 0 (5 * T + 1)) (gI h 0 (5 * T + 2))
  have R1 := R.cls cc
  have V1 := V.cls R.F cc
  have M1 := M.up cc (by omega) Lv.1.1.1.1.1
  have A1 := Rv.cls R cc
  have A2 := A1.th R1 0
  have n4 := cc.2.2.2.2.2.2.1
  have n5 := cc.2.2.2.2.2.2.2
  have q1 := cc_k cc s1
  have q2 : ln h1 0 = L := by rw [(cc.2.2.2.2.1 0 (isK_spec s1).1).2, s2]
  have g1 : inL h1 0 (ii (5 * T + 1)) = true := inL_n (by omega) (by rw [q2]; omega)
  have y1 : gI h1 0 (5 * T + 1) = gI h 0 (5 * T + 1) := (cc.2.2.2.1 0 _ (Or.inl rfl) (isK_spec s1).1).1
  have g2 : inL h1 0 (ii (5 * T + 2)) = true := inL_n (by omega) (by rw [q2]; omega)
  have y2 : gI h1 0 (5 * T + 2) = gI h 0 (5 * T + 2) := (cc.2.2.2.1 0 _ (Or.inl rfl) (isK_spec s1).1).1
  obtain ⟨v, h2, e2, z1, z2, mo⟩ := qx_mdelivered R1 A2  V1 hs5 (by omega) (by omega) (gI h 0 (5 * T + 1)) (gI h 0 (5 * T + 2))
  refine ⟨h2, some (.inl k), some (.inl v), w7, w8, fun Q => ?_, li_go cc Y R O t125 ⟨s1, s2⟩ rn rs mo M1⟩
  simp only [↓e_Law_law_750, ↓e_Law_law_751, ↓e_Law_law_752, ↓e_Law_law_754, ↓e_Law_law_755, ↓e_Law_law_756, ↓e_Law_law_757, ↓e_Law_law_758, ↓e_Law_law_760, ↓e_Law_law_761, ↓e_Law_law_762, ↓e_Law_law_763, ↓e_Law_law_764, ↓e_Law_law_767, ↓e_Law_law_769, ↓e_Law_law_770, ↓e_Law_law_771, ↓e_Law_law_773, ↓e_Law_law_774, ↓e_Law_law_775, ↓e_Law_law_776, ↓e_Law_law_777, ↓e_Law_law_779, ↓e_Law_law_780, ↓e_Law_law_781, ↓e_Law_law_782, ↓e_Law_law_785, ↓e_Law_law_787, not_true_eq_false, not_false_eq_true, one0, true_or, or_true, eq_self, bI_z, bI_nz, bI_o, b_ft, bI_1, bI_0, ↓kC_l, ↓kC_r, Option.toList_some, Option.toList_none, List.cons_append, List.nil_append, s1_0, s1_1i, s1_1r, s1_1w, s1_1n, s1_s, s2_0, s2_1i, s2_1r, s2_1w, s2_1n, s2_s, gI_sI, gI_sR, gI_sL, gI_sD, gR_sI, gR_sR, gR_sL, gR_sD, gL_sI, gL_sR, gL_sL, gL_sD, gD_sI, gD_sR, gD_sL, gD_sD, isK_sI, isK_sR, isK_sL, isK_sD, inL_sI, inL_sR, inL_sL, inL_sD, nx_sI, nx_sR, nx_sL, nx_sD, kd_sI, kd_sR, kd_sL, kd_sD, ln_sI, ln_sR, ln_sL, ln_sD, ↓reduceIte, c8_n, c8_1, c8_2, c8_3, c8_4, Nat.reduceAdd, ii_succ, s1, j1, t1, a1, j2, t2, a2, q1, g1, y1, g2, y2, k_s S, e1, R1.k, e2]
theorem d_would (I : LI L T h) (hT : 5 * T + 5 ≤ L) (hL : L ≤ 2560) (w5 w6 w7 w8 : Option MV) : ∃ h2 v5 v6 v7 v8, (∀ Q, WP Gm j_Law_law 821 [some (.inr (.inl (some 0))), some (.inr (.inl (some 1))), some (.inr (.inl (some 121))), some (.inr (.inl (some 125))), some (.inl (ii (5 * T))), w5, w6, w7, w8] [] h Q = WP Gm j_Law_law 996 [some (.inr (.inl (some 0))), some (.inr (.inl (some 1))), some (.inr (.inl (some 121))), some (.inr (.inl (some 125))), some (.inl (ii (5 * T))), v5, v6, v7, v8] [] h2 Q) ∧ LI L (T + 1) h2 := by
  obtain ⟨n, B, τ, p, c, b9, x9, p9, m, α, Lv, hB, W, R, O, t125, ⟨s1, s2⟩, rn, rs, M, V, Cv, Rv⟩ := I
  have b2 := R.b2
  have cb := R.cb
  have S := Lv.1.1.1
  have hn8 := n8 S
  have hnx : 121 ≤ nx h := S.1.1
  have hr : okR cM sM h 1 6 = true := ok_big (by omega) (by omega)
  have Cv0 := Cv.t hn8 0
  have j1 : inL h 0 (ii (5 * T + 1)) = true := inL_n (by omega) (by rw [s2]; omega)
  have t1 : (ii (5 * T + 1)).toNatClampNeg = 5 * T + 1 := ii_nat (by omega)
  have a1 : ii (5 * T) + 1 = ii (5 * T + 1) := ii_add _ 1
  have j2 : inL h 0 (ii (5 * T + 2)) = true := inL_n (by omega) (by rw [s2]; omega)
  have t2 : (ii (5 * T + 2)).toNatClampNeg = 5 * T + 2 := ii_nat (by omega)
  have a2 : ii (5 * T) + 2 = ii (5 * T + 2) := ii_add _ 2
  obtain ⟨k, h1, e1, cc, k1, k2, Y⟩ := hv_would Lv hB W hr O Cv0  (gI h 0 (5 * T + 1)) (gI h 0 (5 * T + 2))
  have R1 := R.cls cc
  have V1 := V.cls R.F cc
  have M1 := M.up cc (by omega) Lv.1.1.1.1.1
  have A1 := Rv.cls R cc
  have A2 := A1.th R1 0
  have n4 := cc.2.2.2.2.2.2.1
  have n5 := cc.2.2.2.2.2.2.2
  have q1 := cc_k cc s1
  have q2 : ln h1 0 = L := by rw [(cc.2.2.2.2.1 0 (isK_spec s1).1).2, s2]
  have g1 : inL h1 0 (ii (5 * T + 1)) = true := inL_n (by omega) (by rw [q2]; omega)
  have y1 : gI h1 0 (5 * T + 1) = gI h 0 (5 * T + 1) := (cc.2.2.2.1 0 _ (Or.inl rfl) (isK_spec s1).1).1
  have g2 : inL h1 0 (ii (5 * T + 2)) = true := inL_n (by omega) (by rw [q2]; omega)
  have y2 : gI h1 0 (5 * T + 2) = gI h 0 (5 * T + 2) := (cc.2.2.2.1 0 _ (Or.inl rfl) (isK_spec s1).1).1
  obtain ⟨v, h2, e2, z1, z2, mo⟩ := qx_mwould R1 A2  V1  (by omega) (by omega) (gI h 0 (5 * T + 1)) (gI h 0 (5 * T + 2))
  refine ⟨h2, some (.inl k), some (.inl v), w7, w8, fun Q => ?_, li_go cc Y R O t125 ⟨s1, s2⟩ rn rs mo M1⟩
  simp only [↓e_Law_law_821, ↓e_Law_law_822, ↓e_Law_law_823, ↓e_Law_law_825, ↓e_Law_law_826, ↓e_Law_law_827, ↓e_Law_law_828, ↓e_Law_law_829, ↓e_Law_law_831, ↓e_Law_law_832, ↓e_Law_law_833, ↓e_Law_law_834, ↓e_Law_law_835, ↓e_Law_law_838, ↓e_Law_law_840, ↓e_Law_law_841, ↓e_Law_law_842, ↓e_Law_law_844, ↓e_Law_law_845, ↓e_Law_law_846, ↓e_Law_law_847, ↓e_Law_law_848, ↓e_Law_law_850, ↓e_Law_law_851, ↓e_Law_law_852, ↓e_Law_law_853, ↓e_Law_law_856, ↓e_Law_law_858, not_true_eq_false, not_false_eq_true, one0, true_or, or_true, eq_self, bI_z, bI_nz, bI_o, b_ft, bI_1, bI_0, ↓kC_l, ↓kC_r, Option.toList_some, Option.toList_none, List.cons_append, List.nil_append, s1_0, s1_1i, s1_1r, s1_1w, s1_1n, s1_s, s2_0, s2_1i, s2_1r, s2_1w, s2_1n, s2_s, gI_sI, gI_sR, gI_sL, gI_sD, gR_sI, gR_sR, gR_sL, gR_sD, gL_sI, gL_sR, gL_sL, gL_sD, gD_sI, gD_sR, gD_sL, gD_sD, isK_sI, isK_sR, isK_sL, isK_sD, inL_sI, inL_sR, inL_sL, inL_sD, nx_sI, nx_sR, nx_sL, nx_sD, kd_sI, kd_sR, kd_sL, kd_sD, ln_sI, ln_sR, ln_sL, ln_sD, ↓reduceIte, c8_n, c8_1, c8_2, c8_3, c8_4, Nat.reduceAdd, ii_succ, s1, j1, t1, a1, j2, t2, a2, q1, g1, y1, g2, y2, k_s S, e1, R1.k, e2]
theorem d_throughput (I : LI L T h) (hT : 5 * T + 5 ≤ L) (hL : L ≤ 2560) (w5 w6 w7 w8 : Option MV) : ∃ h2 v5 v6 v7 v8, (∀ Q, WP Gm j_Law_law 861 [some (.inr (.inl (some 0))), some (.inr (.inl (some 1))), some (.inr (.inl (some 121))), some (.inr (.inl (some 125))), some (.inl (ii (5 * T))), w5, w6, w7, w8] [] h Q = WP Gm j_Law_law 996 [some (.inr (.inl (some 0))), some (.inr (.inl (some 1))), some (.inr (.inl (some 121))), some (.inr (.inl (some 125))), some (.inl (ii (5 * T))), v5, v6, v7, v8] [] h2 Q) ∧ LI L (T + 1) h2 := by
  obtain ⟨n, B, τ, p, c, b9, x9, p9, m, α, Lv, hB, W, R, O, t125, ⟨s1, s2⟩, rn, rs, M, V, Cv, Rv⟩ := I
  have b2 := R.b2
  have cb := R.cb
  have S := Lv.1.1.1
  have hn8 := n8 S
  have hnx : 121 ≤ nx h := S.1.1
  have hr : okR cM sM h 1 6 = true := ok_big (by omega) (by omega)
  have j1 : inL h 0 (ii (5 * T + 1)) = true := inL_n (by omega) (by rw [s2]; omega)
  have t1 : (ii (5 * T + 1)).toNatClampNeg = 5 * T + 1 := ii_nat (by omega)
  have a1 : ii (5 * T) + 1 = ii (5 * T + 1) := ii_add _ 1
  have j2 : inL h 0 (ii (5 * T + 2)) = true := inL_n (by omega) (by rw [s2]; omega)
  have t2 : (ii (5 * T + 2)).toNatClampNeg = 5 * T + 2 := ii_nat (by omega)
  have a2 : ii (5 * T) + 2 = ii (5 * T + 2) := ii_add _ 2
  obtain ⟨k, h1, e1, cc, Y0⟩ := hk_throughput Lv hB W hr O (gI h 0 (5 * T + 1)) (gI h 0 (5 * T + 2))
  have Y := Cv.ka hn8 Y0
  have R1 := R.cls cc
  have V1 := V.cls R.F cc
  have M1 := M.up cc (by omega) Lv.1.1.1.1.1
  have A1 := Rv.cls R cc
  have n4 := cc.2.2.2.2.2.2.1
  have n5 := cc.2.2.2.2.2.2.2
  have q1 := cc_k cc s1
  have q2 : ln h1 0 = L := by rw [(cc.2.2.2.2.1 0 (isK_spec s1).1).2, s2]
  have g1 : inL h1 0 (ii (5 * T + 1)) = true := inL_n (by omega) (by rw [q2]; omega)
  have y1 : gI h1 0 (5 * T + 1) = gI h 0 (5 * T + 1) := (cc.2.2.2.1 0 _ (Or.inl rfl) (isK_spec s1).1).1
  have g2 : inL h1 0 (ii (5 * T + 2)) = true := inL_n (by omega) (by rw [q2]; omega)
  have y2 : gI h1 0 (5 * T + 2) = gI h 0 (5 * T + 2) := (cc.2.2.2.1 0 _ (Or.inl rfl) (isK_spec s1).1).1
  obtain ⟨v, h2, e2, J, -⟩ := qj_mthroughput R1 (by omega) (by omega) (gI h 0 (5 * T + 1)) (gI h 0 (5 * T + 2))
  have mo := MoA.jt R1 A1 V1 J
  refine ⟨h2, some (.inl k), some (.inr (.inr (.inr v))), none, w8, fun Q => ?_, li_go cc Y R O t125 ⟨s1, s2⟩ rn rs mo M1⟩
  simp only [↓e_Law_law_861, ↓e_Law_law_862, ↓e_Law_law_863, ↓e_Law_law_865, ↓e_Law_law_866, ↓e_Law_law_867, ↓e_Law_law_868, ↓e_Law_law_869, ↓e_Law_law_871, ↓e_Law_law_872, ↓e_Law_law_873, ↓e_Law_law_874, ↓e_Law_law_875, ↓e_Law_law_878, ↓e_Law_law_880, ↓e_Law_law_881, ↓e_Law_law_882, ↓e_Law_law_884, ↓e_Law_law_885, ↓e_Law_law_886, ↓e_Law_law_887, ↓e_Law_law_888, ↓e_Law_law_890, ↓e_Law_law_891, ↓e_Law_law_892, ↓e_Law_law_893, ↓e_Law_law_896, ↓e_Law_law_898, not_true_eq_false, not_false_eq_true, one0, true_or, or_true, eq_self, bI_z, bI_nz, bI_o, b_ft, bI_1, bI_0, ↓kC_l, ↓kC_r, Option.toList_some, Option.toList_none, List.cons_append, List.nil_append, s1_0, s1_1i, s1_1r, s1_1w, s1_1n, s1_s, s2_0, s2_1i, s2_1r, s2_1w, s2_1n, s2_s, gI_sI, gI_sR, gI_sL, gI_sD, gR_sI, gR_sR, gR_sL, gR_sD, gL_sI, gL_sR, gL_sL, gL_sD, gD_sI, gD_sR, gD_sL, gD_sD, isK_sI, isK_sR, isK_sL, isK_sD, inL_sI, inL_sR, inL_sL, inL_sD, nx_sI, nx_sR, nx_sL, nx_sD, kd_sI, kd_sR, kd_sL, kd_sD, ln_sI, ln_sR, ln_sL, ln_sD, ↓reduceIte, c8_n, c8_1, c8_2, c8_3, c8_4, Nat.reduceAdd, ii_succ, s1, j1, t1, a1, j2, t2, a2, q1, g1, y1, g2, y2, k_s S, e1, R1.k, e2]
theorem d_bestChance (I : LI L T h) (hT : 5 * T + 5 ≤ L) (hL : L ≤ 2560) (w5 w6 w7 w8 : Option MV) : ∃ h2 v5 v6 v7 v8, (∀ Q, WP Gm j_Law_law 901 [some (.inr (.inl (some 0))), some (.inr (.inl (some 1))), some (.inr (.inl (some 121))), some (.inr (.inl (some 125))), some (.inl (ii (5 * T))), w5, w6, w7, w8] [] h Q = WP Gm j_Law_law 996 [some (.inr (.inl (some 0))), some (.inr (.inl (some 1))), some (.inr (.inl (some 121))), some (.inr (.inl (some 125))), some (.inl (ii (5 * T))), v5, v6, v7, v8] [] h2 Q) ∧ LI L (T + 1) h2 := by
  obtain ⟨n, B, τ, p, c, b9, x9, p9, m, α, Lv, hB, W, R, O, t125, ⟨s1, s2⟩, rn, rs, M, V, Cv, Rv⟩ := I
  have b2 := R.b2
  have cb := R.cb
  have S := Lv.1.1.1
  have hn8 := n8 S
  have hnx : 121 ≤ nx h := S.1.1
  have hr : okR cM sM h 1 6 = true := ok_big (by omega) (by omega)
  have j1 : inL h 0 (ii (5 * T + 1)) = true := inL_n (by omega) (by rw [s2]; omega)
  have t1 : (ii (5 * T + 1)).toNatClampNeg = 5 * T + 1 := ii_nat (by omega)
  have a1 : ii (5 * T) + 1 = ii (5 * T + 1) := ii_add _ 1
  obtain ⟨k, h1, e1, cc, Y0⟩ := hk_bestChance Lv hB W hr O (gI h 0 (5 * T + 1))
  have Y := Cv.ka hn8 Y0
  have R1 := R.cls cc
  have V1 := V.cls R.F cc
  have M1 := M.up cc (by omega) Lv.1.1.1.1.1
  have A1 := Rv.cls R cc
  have n4 := cc.2.2.2.2.2.2.1
  have n5 := cc.2.2.2.2.2.2.2
  have q1 := cc_k cc s1
  have q2 : ln h1 0 = L := by rw [(cc.2.2.2.2.1 0 (isK_spec s1).1).2, s2]
  have g1 : inL h1 0 (ii (5 * T + 1)) = true := inL_n (by omega) (by rw [q2]; omega)
  have y1 : gI h1 0 (5 * T + 1) = gI h 0 (5 * T + 1) := (cc.2.2.2.1 0 _ (Or.inl rfl) (isK_spec s1).1).1
  obtain ⟨v, h2, e2, J⟩ := qj_mbest R1 (by omega) (by omega) (gI h 0 (5 * T + 1))
  have mo := MoA.jt R1 A1 V1 J
  refine ⟨h2, some (.inl k), some (.inl v), w7, w8, fun Q => ?_, li_go cc Y R O t125 ⟨s1, s2⟩ rn rs mo M1⟩
  simp only [↓e_Law_law_901, ↓e_Law_law_902, ↓e_Law_law_903, ↓e_Law_law_905, ↓e_Law_law_906, ↓e_Law_law_907, ↓e_Law_law_908, ↓e_Law_law_909, ↓e_Law_law_912, ↓e_Law_law_914, ↓e_Law_law_915, ↓e_Law_law_916, ↓e_Law_law_918, ↓e_Law_law_919, ↓e_Law_law_920, ↓e_Law_law_921, ↓e_Law_law_924, ↓e_Law_law_926, not_true_eq_false, not_false_eq_true, one0, true_or, or_true, eq_self, bI_z, bI_nz, bI_o, b_ft, bI_1, bI_0, ↓kC_l, ↓kC_r, Option.toList_some, Option.toList_none, List.cons_append, List.nil_append, s1_0, s1_1i, s1_1r, s1_1w, s1_1n, s1_s, s2_0, s2_1i, s2_1r, s2_1w, s2_1n, s2_s, gI_sI, gI_sR, gI_sL, gI_sD, gR_sI, gR_sR, gR_sL, gR_sD, gL_sI, gL_sR, gL_sL, gL_sD, gD_sI, gD_sR, gD_sL, gD_sD, isK_sI, isK_sR, isK_sL, isK_sD, inL_sI, inL_sR, inL_sL, inL_sD, nx_sI, nx_sR, nx_sL, nx_sD, kd_sI, kd_sR, kd_sL, kd_sD, ln_sI, ln_sR, ln_sL, ln_sD, ↓reduceIte, c8_n, c8_1, c8_2, c8_3, c8_4, Nat.reduceAdd, ii_succ, s1, j1, t1, a1, q1, g1, y1, k_s S, e1, R1.k, e2]
theorem d_auction (I : LI L T h) (hT : 5 * T + 5 ≤ L) (hL : L ≤ 2560) (w5 w6 w7 w8 : Option MV) : ∃ h2 v5 v6 v7 v8, (∀ Q, WP Gm j_Law_law 929 [some (.inr (.inl (some 0))), some (.inr (.inl (some 1))), some (.inr (.inl (some 121))), some (.inr (.inl (some 125))), some (.inl (ii (5 * T))), w5, w6, w7, w8] [] h Q = WP Gm j_Law_law 996 [some (.inr (.inl (some 0))), some (.inr (.inl (some 1))), some (.inr (.inl (some 121))), some (.inr (.inl (some 125))), some (.inl (ii (5 * T))), v5, v6, v7, v8] [] h2 Q) ∧ LI L (T + 1) h2 := by
  obtain ⟨n, B, τ, p, c, b9, x9, p9, m, α, Lv, hB, W, R, O, t125, ⟨s1, s2⟩, rn, rs, M, V, Cv, Rv⟩ := I
  have b2 := R.b2
  have cb := R.cb
  have S := Lv.1.1.1
  have hn8 := n8 S
  have hnx : 121 ≤ nx h := S.1.1
  have hr : okR cM sM h 1 6 = true := ok_big (by omega) (by omega)
  have j1 : inL h 0 (ii (5 * T + 1)) = true := inL_n (by omega) (by rw [s2]; omega)
  have t1 : (ii (5 * T + 1)).toNatClampNeg = 5 * T + 1 := ii_nat (by omega)
  have a1 : ii (5 * T) + 1 = ii (5 * T + 1) := ii_add _ 1
  obtain ⟨k, h1, e1, cc, Y0⟩ := hk_auction Lv hB W hr O (gI h 0 (5 * T + 1))
  have Y := Cv.ka hn8 Y0
  have R1 := R.cls cc
  have V1 := V.cls R.F cc
  have M1 := M.up cc (by omega) Lv.1.1.1.1.1
  have A1 := Rv.cls R cc
  have n4 := cc.2.2.2.2.2.2.1
  have n5 := cc.2.2.2.2.2.2.2
  have q1 := cc_k cc s1
  have q2 : ln h1 0 = L := by rw [(cc.2.2.2.2.1 0 (isK_spec s1).1).2, s2]
  have g1 : inL h1 0 (ii (5 * T + 1)) = true := inL_n (by omega) (by rw [q2]; omega)
  have y1 : gI h1 0 (5 * T + 1) = gI h 0 (5 * T + 1) := (cc.2.2.2.1 0 _ (Or.inl rfl) (isK_spec s1).1).1
  obtain ⟨v, h2, e2, J⟩ := qj_mauction R1 (by omega) (by omega) (gI h 0 (5 * T + 1))
  have mo := MoA.jt R1 A1 V1 J
  refine ⟨h2, some (.inl k), some (.inl v), w7, w8, fun Q => ?_, li_go cc Y R O t125 ⟨s1, s2⟩ rn rs mo M1⟩
  simp only [↓e_Law_law_929, ↓e_Law_law_930, ↓e_Law_law_931, ↓e_Law_law_933, ↓e_Law_law_934, ↓e_Law_law_935, ↓e_Law_law_936, ↓e_Law_law_937, ↓e_Law_law_940, ↓e_Law_law_942, ↓e_Law_law_943, ↓e_Law_law_944, ↓e_Law_law_946, ↓e_Law_law_947, ↓e_Law_law_948, ↓e_Law_law_949, ↓e_Law_law_952, ↓e_Law_law_954, not_true_eq_false, not_false_eq_true, one0, true_or, or_true, eq_self, bI_z, bI_nz, bI_o, b_ft, bI_1, bI_0, ↓kC_l, ↓kC_r, Option.toList_some, Option.toList_none, List.cons_append, List.nil_append, s1_0, s1_1i, s1_1r, s1_1w, s1_1n, s1_s, s2_0, s2_1i, s2_1r, s2_1w, s2_1n, s2_s, gI_sI, gI_sR, gI_sL, gI_sD, gR_sI, gR_sR, gR_sL, gR_sD, gL_sI, gL_sR, gL_sL, gL_sD, gD_sI, gD_sR, gD_sL, gD_sD, isK_sI, isK_sR, isK_sL, isK_sD, inL_sI, inL_sR, inL_sL, inL_sD, nx_sI, nx_sR, nx_sL, nx_sD, kd_sI, kd_sR, kd_sL, kd_sD, ln_sI, ln_sR, ln_sL, ln_sD, ↓reduceIte, c8_n, c8_1, c8_2, c8_3, c8_4, Nat.reduceAdd, ii_succ, s1, j1, t1, a1, q1, g1, y1, k_s S, e1, R1.k, e2]
theorem d_sell (I : LI L T h) (hT : 5 * T + 5 ≤ L) (hL : L ≤ 2560) (w5 w6 w7 w8 : Option MV) : ∃ h2 v5 v6 v7 v8, (∀ Q, WP Gm j_Law_law 512 [some (.inr (.inl (some 0))), some (.inr (.inl (some 1))), some (.inr (.inl (some 121))), some (.inr (.inl (some 125))), some (.inl (ii (5 * T))), w5, w6, w7, w8] [] h Q = WP Gm j_Law_law 996 [some (.inr (.inl (some 0))), some (.inr (.inl (some 1))), some (.inr (.inl (some 121))), some (.inr (.inl (some 125))), some (.inl (ii (5 * T))), v5, v6, v7, v8] [] h2 Q) ∧ LI L (T + 1) h2 := by
  obtain ⟨n, B, τ, p, c, b9, x9, p9, m, α, Lv, hB, W, R, O, t125, ⟨s1, s2⟩, rn, rs, M, V, Cv, Rv⟩ := I
  have b2 := R.b2
  have cb := R.cb
  have S := Lv.1.1.1
  have hn8 := n8 S
  have hnx : 121 ≤ nx h := S.1.1
  obtain ⟨h1, e1, cc, M1, Y⟩ := vk_sell Lv hB W Cv M b9 x9 p9
  have R1 := R.cls cc
  have V1 := V.cls R.F cc
  have n4 := cc.2.2.2.2.2.2.1
  have n5 := cc.2.2.2.2.2.2.2
  obtain ⟨h2, e2, mo⟩ := qa_msell R1 V1 (Rv.cls R cc) (by omega) (by omega) b9 x9 p9
  refine ⟨h2, w5, w6, w7, w8, fun Q => ?_, li_go cc Y R O t125 ⟨s1, s2⟩ rn rs mo M1⟩
  simp only [↓e_Law_law_512, ↓e_Law_law_513, ↓e_Law_law_516, ↓e_Law_law_517, ↓e_Law_law_518, ↓e_Law_law_521, ↓e_Law_law_522, not_true_eq_false, not_false_eq_true, one0, true_or, or_true, eq_self, bI_z, bI_nz, bI_o, b_ft, bI_1, bI_0, ↓kC_l, ↓kC_r, Option.toList_some, Option.toList_none, List.cons_append, List.nil_append, s1_0, s1_1i, s1_1r, s1_1w, s1_1n, s1_s, s2_0, s2_1i, s2_1r, s2_1w, s2_1n, s2_s, gI_sI, gI_sR, gI_sL, gI_sD, gR_sI, gR_sR, gR_sL, gR_sD, gL_sI, gL_sR, gL_sL, gL_sD, gD_sI, gD_sR, gD_sL, gD_sD, isK_sI, isK_sR, isK_sL, isK_sD, inL_sI, inL_sR, inL_sL, inL_sD, nx_sI, nx_sR, nx_sL, nx_sD, kd_sI, kd_sR, kd_sL, kd_sD, ln_sI, ln_sR, ln_sL, ln_sD, ↓reduceIte, c8_n, c8_1, c8_2, c8_3, c8_4, Nat.reduceAdd, k_s S, e1, R1.k, e2]
theorem d_fairness (I : LI L T h) (hT : 5 * T + 5 ≤ L) (hL : L ≤ 2560) (w5 w6 w7 w8 : Option MV) : ∃ h2 v5 v6 v7 v8, (∀ Q, WP Gm j_Law_law 790 [some (.inr (.inl (some 0))), some (.inr (.inl (some 1))), some (.inr (.inl (some 121))), some (.inr (.inl (some 125))), some (.inl (ii (5 * T))), w5, w6, w7, w8] [] h Q = WP Gm j_Law_law 996 [some (.inr (.inl (some 0))), some (.inr (.inl (some 1))), some (.inr (.inl (some 121))), some (.inr (.inl (some 125))), some (.inl (ii (5 * T))), v5, v6, v7, v8] [] h2 Q) ∧ LI L (T + 1) h2 := by
  obtain ⟨n, B, τ, p, c, b9, x9, p9, m, α, Lv, hB, W, R, O, t125, ⟨s1, s2⟩, rn, rs, M, V, Cv, Rv⟩ := I
  have b2 := R.b2
  have cb := R.cb
  have S := Lv.1.1.1
  have hn8 := n8 S
  have hnx : 121 ≤ nx h := S.1.1
  obtain ⟨fx, e1, -⟩ := q_fairness Lv hB
  have cc : CC n (T + 1) h h := CC.refl Lv hB W
  have R1 := R.cls cc
  have V1 := V.cls R.F cc
  have M1 := M.up cc (by omega) Lv.1.1.1.1.1
  have n4 := cc.2.2.2.2.2.2.1
  have n5 := cc.2.2.2.2.2.2.2
  obtain ⟨v, h2, e2, J⟩ := qj_mfairness R1 (by omega) (by omega)
  have mo := MoA.jt R1 (Rv.cls R cc) V1 J
  refine ⟨h2, some (.inr (.inr (.inr fx))), none, some (.inr (.inr (.inr v))), none, fun Q => ?_, li_go cc (Cv) R O t125 ⟨s1, s2⟩ rn rs mo M1⟩
  simp only [↓e_Law_law_790, ↓e_Law_law_791, ↓e_Law_law_794, ↓e_Law_law_796, ↓e_Law_law_797, ↓e_Law_law_800, ↓e_Law_law_802, not_true_eq_false, not_false_eq_true, one0, true_or, or_true, eq_self, bI_z, bI_nz, bI_o, b_ft, bI_1, bI_0, ↓kC_l, ↓kC_r, Option.toList_some, Option.toList_none, List.cons_append, List.nil_append, s1_0, s1_1i, s1_1r, s1_1w, s1_1n, s1_s, s2_0, s2_1i, s2_1r, s2_1w, s2_1n, s2_s, gI_sI, gI_sR, gI_sL, gI_sD, gR_sI, gR_sR, gR_sL, gR_sD, gL_sI, gL_sR, gL_sL, gL_sD, gD_sI, gD_sR, gD_sL, gD_sD, isK_sI, isK_sR, isK_sL, isK_sD, inL_sI, inL_sR, inL_sL, inL_sD, nx_sI, nx_sR, nx_sL, nx_sD, kd_sI, kd_sR, kd_sL, kd_sD, ln_sI, ln_sR, ln_sL, ln_sD, ↓reduceIte, c8_n, c8_1, c8_2, c8_3, c8_4, Nat.reduceAdd, k_s S, e1, R1.k, e2]
theorem d_row (I : LI L T h) (hT : 5 * T + 5 ≤ L) (hL : L ≤ 2560) (w5 w6 w7 w8 : Option MV) : ∃ h2 v5 v6 v7 v8, (∀ Q, WP Gm j_Law_law 805 [some (.inr (.inl (some 0))), some (.inr (.inl (some 1))), some (.inr (.inl (some 121))), some (.inr (.inl (some 125))), some (.inl (ii (5 * T))), w5, w6, w7, w8] [] h Q = WP Gm j_Law_law 996 [some (.inr (.inl (some 0))), some (.inr (.inl (some 1))), some (.inr (.inl (some 121))), some (.inr (.inl (some 125))), some (.inl (ii (5 * T))), v5, v6, v7, v8] [] h2 Q) ∧ LI L (T + 1) h2 := by
  obtain ⟨n, B, τ, p, c, b9, x9, p9, m, α, Lv, hB, W, R, O, t125, ⟨s1, s2⟩, rn, rs, M, V, Cv, Rv⟩ := I
  have b2 := R.b2
  have cb := R.cb
  have S := Lv.1.1.1
  have hn8 := n8 S
  have hnx : 121 ≤ nx h := S.1.1
  obtain ⟨r, h1, e1, S1, r1, E1, x1, x2⟩ := s_row9 Lv.1.1 Cv (by omega) (by omega)
  have cc : CC n (T + 1) h h1 := CC.ex Lv hB W E1 x1 x2
  have R1 := R.cls cc
  have V1 := V.cls R.F cc
  have M1 := M.up cc (by omega) Lv.1.1.1.1.1
  have n4 := cc.2.2.2.2.2.2.1
  have n5 := cc.2.2.2.2.2.2.2
  obtain ⟨r', h2, e2, S2, r2, L2, J⟩ := qx_mrow R1 (Rv.cls R cc) (by omega) (by omega)
  have mo := MoA.jt R1 (Rv.cls R cc) V1 J
  have I2 := li_go cc (Cv.ka hn8 (KA.ex E1 hnx)) R O t125 ⟨s1, s2⟩ rn rs mo M1
  have t5 := isK_lt O
  have t1 := isK_lt S1.1
  have S3 := S1.lo (by omega) L2
  have e3 := q_strEq S3 S2 (by omega) (by omega) (by omega) (by omega)
  have k3 := S3.1
  refine ⟨h2, w5, w6, w7, w8, fun Q => ?_, I2⟩
  simp only [↓e_Law_law_805, ↓e_Law_law_806, ↓e_Law_law_809, ↓e_Law_law_810, ↓e_Law_law_813, ↓e_Law_law_816, ↓e_Law_law_819, ↓e_Law_law_820, not_true_eq_false, not_false_eq_true, one0, true_or, or_true, eq_self, bI_z, bI_nz, bI_o, b_ft, bI_1, bI_0, ↓kC_l, ↓kC_r, Option.toList_some, Option.toList_none, List.cons_append, List.nil_append, s1_0, s1_1i, s1_1r, s1_1w, s1_1n, s1_s, s2_0, s2_1i, s2_1r, s2_1w, s2_1n, s2_s, gI_sI, gI_sR, gI_sL, gI_sD, gR_sI, gR_sR, gR_sL, gR_sD, gL_sI, gL_sR, gL_sL, gL_sD, gD_sI, gD_sR, gD_sL, gD_sD, isK_sI, isK_sR, isK_sL, isK_sD, inL_sI, inL_sR, inL_sL, inL_sD, nx_sI, nx_sR, nx_sL, nx_sD, kd_sI, kd_sR, kd_sL, kd_sD, ln_sI, ln_sR, ln_sL, ln_sD, ↓reduceIte, c8_n, c8_1, c8_2, c8_3, c8_4, Nat.reduceAdd, k_s S, e1, R1.k, e2, k3, e3]
theorem d_cover (I : LI L T h) (hT : 5 * T + 5 ≤ L) (hL : L ≤ 2560) (w5 w6 w7 w8 : Option MV) : ∃ h2 v5 v6 v7 v8, (∀ Q, WP Gm j_Law_law 957 [some (.inr (.inl (some 0))), some (.inr (.inl (some 1))), some (.inr (.inl (some 121))), some (.inr (.inl (some 125))), some (.inl (ii (5 * T))), w5, w6, w7, w8] [] h Q = WP Gm j_Law_law 996 [some (.inr (.inl (some 0))), some (.inr (.inl (some 1))), some (.inr (.inl (some 121))), some (.inr (.inl (some 125))), some (.inl (ii (5 * T))), v5, v6, v7, v8] [] h2 Q) ∧ LI L (T + 1) h2 := by
  obtain ⟨n, B, τ, p, c, b9, x9, p9, m, α, Lv, hB, W, R, O, t125, ⟨s1, s2⟩, rn, rs, M, V, Cv, Rv⟩ := I
  have b2 := R.b2
  have cb := R.cb
  have S := Lv.1.1.1
  have hn8 := n8 S
  have hnx : 121 ≤ nx h := S.1.1
  have e1 := fun Q => q_cover Q Lv.1.1.1
  have cc : CC n (T + 1) h h := CC.refl Lv hB W
  have R1 := R.cls cc
  have V1 := V.cls R.F cc
  have M1 := M.up cc (by omega) Lv.1.1.1.1.1
  have n4 := cc.2.2.2.2.2.2.1
  have n5 := cc.2.2.2.2.2.2.2
  obtain ⟨v, h2, e2, J⟩ := qj_mcover R1 (by omega) (by omega)
  have mo := MoA.jt R1 (Rv.cls R cc) V1 J
  refine ⟨h2, w5, w6, w7, w8, fun Q => ?_, li_go cc (Cv) R O t125 ⟨s1, s2⟩ rn rs mo M1⟩
  simp only [↓e_Law_law_957, ↓e_Law_law_958, ↓e_Law_law_961, ↓e_Law_law_962, ↓e_Law_law_963, ↓e_Law_law_966, ↓e_Law_law_967, not_true_eq_false, not_false_eq_true, one0, true_or, or_true, eq_self, bI_z, bI_nz, bI_o, b_ft, bI_1, bI_0, ↓kC_l, ↓kC_r, Option.toList_some, Option.toList_none, List.cons_append, List.nil_append, s1_0, s1_1i, s1_1r, s1_1w, s1_1n, s1_s, s2_0, s2_1i, s2_1r, s2_1w, s2_1n, s2_s, gI_sI, gI_sR, gI_sL, gI_sD, gR_sI, gR_sR, gR_sL, gR_sD, gL_sI, gL_sR, gL_sL, gL_sD, gD_sI, gD_sR, gD_sL, gD_sD, isK_sI, isK_sR, isK_sL, isK_sD, inL_sI, inL_sR, inL_sL, inL_sD, nx_sI, nx_sR, nx_sL, nx_sD, kd_sI, kd_sR, kd_sL, kd_sD, ln_sI, ln_sR, ln_sL, ln_sD, ↓reduceIte, c8_n, c8_1, c8_2, c8_3, c8_4, Nat.reduceAdd, k_s S, e1, R1.k, e2]
theorem d_isSound (I : LI L T h) (hT : 5 * T + 5 ≤ L) (hL : L ≤ 2560) (w5 w6 w7 w8 : Option MV) : ∃ h2 v5 v6 v7 v8, (∀ Q, WP Gm j_Law_law 970 [some (.inr (.inl (some 0))), some (.inr (.inl (some 1))), some (.inr (.inl (some 121))), some (.inr (.inl (some 125))), some (.inl (ii (5 * T))), w5, w6, w7, w8] [] h Q = WP Gm j_Law_law 996 [some (.inr (.inl (some 0))), some (.inr (.inl (some 1))), some (.inr (.inl (some 121))), some (.inr (.inl (some 125))), some (.inl (ii (5 * T))), v5, v6, v7, v8] [] h2 Q) ∧ LI L (T + 1) h2 := by
  obtain ⟨n, B, τ, p, c, b9, x9, p9, m, α, Lv, hB, W, R, O, t125, ⟨s1, s2⟩, rn, rs, M, V, Cv, Rv⟩ := I
  have b2 := R.b2
  have cb := R.cb
  have S := Lv.1.1.1
  have hn8 := n8 S
  have hnx : 121 ≤ nx h := S.1.1
  have e1 := q_isSound Lv hB
  have cc : CC n (T + 1) h h := CC.refl Lv hB W
  have R1 := R.cls cc
  have V1 := V.cls R.F cc
  have M1 := M.up cc (by omega) Lv.1.1.1.1.1
  have n4 := cc.2.2.2.2.2.2.1
  have n5 := cc.2.2.2.2.2.2.2
  obtain ⟨v, h2, e2, J⟩ := qj_misSound R1 (by omega) (by omega)
  have mo := MoA.jt R1 (Rv.cls R cc) V1 J
  refine ⟨h2, w5, w6, w7, w8, fun Q => ?_, li_go cc (Cv) R O t125 ⟨s1, s2⟩ rn rs mo M1⟩
  simp only [↓e_Law_law_970, ↓e_Law_law_971, ↓e_Law_law_974, ↓e_Law_law_975, ↓e_Law_law_976, ↓e_Law_law_979, ↓e_Law_law_980, not_true_eq_false, not_false_eq_true, one0, true_or, or_true, eq_self, bI_z, bI_nz, bI_o, b_ft, bI_1, bI_0, ↓kC_l, ↓kC_r, Option.toList_some, Option.toList_none, List.cons_append, List.nil_append, s1_0, s1_1i, s1_1r, s1_1w, s1_1n, s1_s, s2_0, s2_1i, s2_1r, s2_1w, s2_1n, s2_s, gI_sI, gI_sR, gI_sL, gI_sD, gR_sI, gR_sR, gR_sL, gR_sD, gL_sI, gL_sR, gL_sL, gL_sD, gD_sI, gD_sR, gD_sL, gD_sD, isK_sI, isK_sR, isK_sL, isK_sD, inL_sI, inL_sR, inL_sL, inL_sD, nx_sI, nx_sR, nx_sL, nx_sD, kd_sI, kd_sR, kd_sL, kd_sD, ln_sI, ln_sR, ln_sL, ln_sD, ↓reduceIte, c8_n, c8_1, c8_2, c8_3, c8_4, Nat.reduceAdd, k_s S, e1, R1.k, e2]
theorem d_digest (I : LI L T h) (hT : 5 * T + 5 ≤ L) (hL : L ≤ 2560) (w5 w6 w7 w8 : Option MV) : ∃ h2 v5 v6 v7 v8, (∀ Q, WP Gm j_Law_law 983 [some (.inr (.inl (some 0))), some (.inr (.inl (some 1))), some (.inr (.inl (some 121))), some (.inr (.inl (some 125))), some (.inl (ii (5 * T))), w5, w6, w7, w8] [] h Q = WP Gm j_Law_law 996 [some (.inr (.inl (some 0))), some (.inr (.inl (some 1))), some (.inr (.inl (some 121))), some (.inr (.inl (some 125))), some (.inl (ii (5 * T))), v5, v6, v7, v8] [] h2 Q) ∧ LI L (T + 1) h2 := by
  obtain ⟨n, B, τ, p, c, b9, x9, p9, m, α, Lv, hB, W, R, O, t125, ⟨s1, s2⟩, rn, rs, M, V, Cv, Rv⟩ := I
  have b2 := R.b2
  have cb := R.cb
  have S := Lv.1.1.1
  have hn8 := n8 S
  have hnx : 121 ≤ nx h := S.1.1
  obtain ⟨x, e1⟩ := q_digest Lv hB
  have cc : CC n (T + 1) h h := CC.refl Lv hB W
  have R1 := R.cls cc
  have V1 := V.cls R.F cc
  have M1 := M.up cc (by omega) Lv.1.1.1.1.1
  have n4 := cc.2.2.2.2.2.2.1
  have n5 := cc.2.2.2.2.2.2.2
  obtain ⟨v, h2, e2, J⟩ := qj_mdigest R1 (by omega) (by omega)
  have mo := MoA.jt R1 (Rv.cls R cc) V1 J
  refine ⟨h2, w5, w6, w7, w8, fun Q => ?_, li_go cc (Cv) R O t125 ⟨s1, s2⟩ rn rs mo M1⟩
  simp only [↓e_Law_law_983, ↓e_Law_law_984, ↓e_Law_law_987, ↓e_Law_law_988, ↓e_Law_law_989, ↓e_Law_law_992, ↓e_Law_law_993, not_true_eq_false, not_false_eq_true, one0, true_or, or_true, eq_self, bI_z, bI_nz, bI_o, b_ft, bI_1, bI_0, ↓kC_l, ↓kC_r, Option.toList_some, Option.toList_none, List.cons_append, List.nil_append, s1_0, s1_1i, s1_1r, s1_1w, s1_1n, s1_s, s2_0, s2_1i, s2_1r, s2_1w, s2_1n, s2_s, gI_sI, gI_sR, gI_sL, gI_sD, gR_sI, gR_sR, gR_sL, gR_sD, gL_sI, gL_sR, gL_sL, gL_sD, gD_sI, gD_sR, gD_sL, gD_sD, isK_sI, isK_sR, isK_sL, isK_sD, inL_sI, inL_sR, inL_sL, inL_sD, nx_sI, nx_sR, nx_sL, nx_sD, kd_sI, kd_sR, kd_sL, kd_sD, ln_sI, ln_sR, ln_sL, ln_sD, ↓reduceIte, c8_n, c8_1, c8_2, c8_3, c8_4, Nat.reduceAdd, k_s S, e1, R1.k, e2]
end LWB
