/-! plawb: the law's calls -/
section LWB
variable {τ : Nat → Nat} {n n2 A c B m T L : Nat} {K : Int32} {p b9 x9 p9 : Nat → Nat} {q : Nat} {h h1 h2 : Hp}
/-- between two calls, T of them done -/
def LI (L T : Nat) (h : Hp) : Prop := ∃ n B τ p c b9 x9 p9 m α, LV n B T h ∧ B ≤ 2000 ∧ FN n h ∧ RM τ n p (8 * B) c B (gI h 1 4) h ∧ isK h 125 kc_Out = true ∧ τ 125 = 0 ∧ (isK h 0 100 = true ∧ ln h 0 = L) ∧ nx h ≤ 200 + 1004 * T + 33 * B ∧ sc h ≤ 5000 + 7040 * T + 648 * B + 4 * c ∧ MX b9 x9 p9 m h ∧ BB τ b9 x9 p9 m h ∧ CA n h α ∧ RA τ n p c B h α
theorem cc_k {lo : Nat} (C : CCg lo m T h h1) {a k : Nat} (hk : isK h a k = true) : isK h1 a k = true := by
  obtain ⟨k1, k2⟩ := isK_spec hk
  exact isK_of (Nat.lt_of_lt_of_le k1 C.2.2.2.2.2.1) (by rw [(C.2.2.2.2.1 a k1).1]; exact k2)
theorem mo_k {S : Nat → Prop} (mo : Mog S τ n c B K h h1) : isK h1 121 kc_Mdl = true := by
  obtain ⟨τ2, p2, c', B2, R2, -⟩ := mo
  exact R2.k
theorem mo_o {S : Nat → Prop} (mo : Mog S τ n c B K h h1) {a k : Nat} (hk : isK h a k = true) : isK h1 a k = true := by
  obtain ⟨τ2, p2, c', B2, R2, X2, -⟩ := mo
  exact X2.k hk
theorem mo_l {S : Nat → Prop} (mo : Mog S τ n c B K h h1) {a k : Nat} (t : τ a = 0) (hS : ¬ S 0 := by first | (unfold S0; decide) | (unfold SM9; decide)) : gL h1 a k = gL h a k := by
  obtain ⟨τ2, p2, c', B2, R2, X2, G2, -⟩ := mo
  exact (G2 a (by rw [t]; exact hS) k).2.2
theorem lg_cmp_self (x : Int64) : lg_cmp x x = 0 := by
  unfold lg_cmp
  rw [if_neg (Int64.lt_irrefl), if_pos rfl]
theorem li_go {lo : Nat} {α : As} (C : CCg lo m (T + 1) h h1) (Y : CA m h1 α) (R : RM τ n p (8 * B) c B (gI h 1 4) h) (O : isK h 125 kc_Out = true) (t125 : τ 125 = 0) (s : isK h 0 100 = true ∧ ln h 0 = L) (rn : nx h ≤ 200 + 1004 * T + 33 * B) (rs : sc h ≤ 5000 + 7040 * T + 648 * B + 4 * c) (mo : MoA τ m c B (gI h 1 4) b9 x9 p9 q α h1 h2) (M : MX b9 x9 p9 q h1) (hlo : lo ≤ 121 := by decide) : LI L (T + 1) h2 := by
  have F1 := (R.cls C hlo).F
  have O1 := cc_k C O
  have s1 := cc_k C s.1
  have hm8 := cc_n8 C
  obtain ⟨⟨B1, b1, L1⟩, W1, cK, c1, c2, c3, c4, c5⟩ := C
  obtain ⟨τ2, p2, c', B2, R2, X2, G2, ⟨le, nn, ss⟩, V2, t, A2⟩ := mo
  have h121 : 121 ≤ nx h1 := L1.1.1.1.1.1
  have E : ∀ a k, a < 121 → gI h2 a k = gI h1 a k ∧ gR h2 a k = gR h1 a k ∧ gL h2 a k = gL h1 a k := fun a k ha => G2 a (by rw [F1.2.2.1 a ha]; unfold SM9; omega) k
  have L2 := L1.up E (fun a ha => (X2.1 a (by omega)).2) (Nat.le_trans h121 X2.2)
  have Y2 : CA m h2 (asV α 50 1 t) := (Y.ka hm8 ⟨fun a k _ h => (E a k (by omega)).1, (E 115 8 (by omega)).1, fun a k h => (E a k (by omega)).2.1, fun a k h => (E a k (by omega)).2.2⟩).t hm8 t
  have eB : B1 = B2 := by
    have q1 := L2.2.2.2
    have q2 := Y2.2.2.2.2.1.1 2 (by omega) (by omega)
    have q3 := A2.g (k := 2) (by omega) (by omega)
    have q4 := R2.sl
    have q5 := R2.b2
    have q6 := q1.symm.trans (q2.trans (q3.symm.trans q4))
    rwa [ii_inj (by omega) (by omega)] at q6
  subst eB
  refine ⟨m, B1, τ2, p2, c', b9, x9, p9, q, asV α 50 1 t, L2, b1, W1.up E, by rw [(E 1 4 (by omega)).1, cK]; exact R2, X2.k O1, by rw [(X2.1 125 (isK_spec O1).1).1]; exact t125, ⟨X2.k s1, ?_⟩, by omega, by omega, M.of fun a k _ h2 => (E a k h2).1, V2, Y2, A2⟩
  rw [X2.l s1, (c2 0 (isK_spec s.1).1).2, s.2]
theorem bid_nums {x y z : Int32} (e : bidOK x y z = true) : ∃ b w p, x = ii b ∧ y = ii w ∧ z = ii p ∧ b < 5 ∧ 1 ≤ w ∧ w < 64 ∧ 1 ≤ p ∧ p ≤ 999 := by
  unfold bidOK at e
  have e1 := Bool.and_eq_true_iff.mp e
  have e2 := Bool.and_eq_true_iff.mp e1.2
  obtain ⟨b, b1, hb⟩ := i32_cases (b := 4) (by omega) e1.1
  obtain ⟨y1, y2, y3, hy⟩ := i32_cases1 (a := 1) (b := 63) (by omega) e2.1 (by omega)
  obtain ⟨q1, q2, q3, hq⟩ := i32_cases1 (a := 1) (b := 999) (by omega) e2.2 (by omega)
  exact ⟨b, y1, q1, hb, hy, hq, by omega, y2, by omega, q2, q3⟩
theorem hx_throughput (L : LV n B T h) (hB : B ≤ 2000) (W : FN n h) (hr : okR cM sM h 1 6 = true) (hO : isK h 125 kc_Out = true) (x0 x1 : Int32) : ∃ k h', (∀ Q, WP Gm j_Law_throughput 0 [some (.inr (.inl (some 1))), some (.inl x0), some (.inl x1), some (.inr (.inl (some 125))), none] [] h Q = Q (.inl (some (.inl k))) h') ∧ CC n (T + 1) h h' ∧ ((tpOK x0 x1 = false ∧ k = 1) ∨ (tpOK x0 x1 = true ∧ k = 0 ∧ ∃ m c, x0 = ii m ∧ x1 = ii c ∧ m ≤ 20 ∧ c ≤ 100 ∧ gD h' 125 1 = tpF m c)) := by
  rcases c_throughput L hB W hr x0 x1 with ⟨ht, h1, r1, cc⟩ | ⟨ht, m, c, hm, hc, m1, m2, c1, r1⟩
  · refine ⟨1, h1, fun Q => ?_, cc, Or.inl ⟨ht, rfl⟩⟩
    simp only [↓e_Law_throughput_0, ↓e_Law_throughput_1, ↓e_Law_throughput_2, ↓e_Law_throughput_3, ↓e_Law_throughput_4, ↓e_Law_throughput_7, ↓e_Law_throughput_10, ↓e_Law_throughput_13, ↓e_Law_throughput_15, ↓e_Law_throughput_16, ↓e_Law_throughput_17, ↓e_Law_throughput_18, not_true_eq_false, not_false_eq_true, one0, true_or, or_true, eq_self, bI_z, bI_nz, bI_o, b_ft, bI_1, bI_0, ↓kC_l, ↓kC_r, Option.toList_some, Option.toList_none, List.cons_append, List.nil_append, s1_0, s1_1i, s1_1r, s1_1w, s1_1n, s1_s, s2_0, s2_1i, s2_1r, s2_1w, s2_1n, s2_s, gI_sI, gI_sR, gI_sL, gI_sD, gR_sI, gR_sR, gR_sL, gR_sD, gL_sI, gL_sR, gL_sL, gL_sD, gD_sI, gD_sR, gD_sL, gD_sD, isK_sI, isK_sR, isK_sL, isK_sD, inL_sI, inL_sR, inL_sL, inL_sD, nx_sI, nx_sR, nx_sL, nx_sD, kd_sI, kd_sR, kd_sL, kd_sD, ln_sI, ln_sR, ln_sL, ln_sD, ↓reduceIte, c8_n, c8_1, c8_2, c8_3, c8_4, Nat.reduceAdd, k_s L.1.1.1, r1, (show mHx_Law_throughput 0 = some (15, 4) from rfl), ne_eq, Nat.reduceEqDiff, true_and]
  · refine ⟨0, sD h 125 1 (tpF m c), fun Q => ?_, cc_sD (CC.refl L hB W) _ _ _, Or.inr ⟨ht, rfl, m, c, hm, hc, m2, c1, by rw [gD_sD, if_pos ⟨rfl, rfl⟩]⟩⟩
    simp only [↓e_Law_throughput_0, ↓e_Law_throughput_1, ↓e_Law_throughput_2, ↓e_Law_throughput_3, ↓e_Law_throughput_4, ↓e_Law_throughput_7, ↓e_Law_throughput_10, ↓e_Law_throughput_13, ↓e_Law_throughput_15, ↓e_Law_throughput_16, ↓e_Law_throughput_17, ↓e_Law_throughput_18, not_true_eq_false, not_false_eq_true, one0, true_or, or_true, eq_self, bI_z, bI_nz, bI_o, b_ft, bI_1, bI_0, ↓kC_l, ↓kC_r, Option.toList_some, Option.toList_none, List.cons_append, List.nil_append, s1_0, s1_1i, s1_1r, s1_1w, s1_1n, s1_s, s2_0, s2_1i, s2_1r, s2_1w, s2_1n, s2_s, gI_sI, gI_sR, gI_sL, gI_sD, gR_sI, gR_sR, gR_sL, gR_sD, gL_sI, gL_sR, gL_sL, gL_sD, gD_sI, gD_sR, gD_sL, gD_sD, isK_sI, isK_sR, isK_sL, isK_sD, inL_sI, inL_sR, inL_sL, inL_sD, nx_sI, nx_sR, nx_sL, nx_sD, kd_sI, kd_sR, kd_sL, kd_sD, ln_sI, ln_sR, ln_sL, ln_sD, ↓reduceIte, c8_n, c8_1, c8_2, c8_3, c8_4, Nat.reduceAdd, k_s L.1.1.1, r1, hO]
theorem qx_mthroughput (R : RM τ n p (8 * B) c B K h) (hn1 : nx h + 1000 ≤ 580300) (hs1 : sc h + 7000 ≤ 5700000) (x y : Int32) :
    ∃ v h', (∀ Q, WP Gm j_Mdl_throughput 0 [some (.inr (.inl (some 121))), some (.inl x), some (.inl y)] [] h Q = Q (.inl (some (.inr (.inr (.inr v))))) h') ∧ Mo τ n c B K h h' ∧ (gD h' 125 1 = gD h 125 1) ∧ (tpOK x y = true → gI h' 121 0 = 0 ∧ ∃ m c, x = ii m ∧ y = ii c ∧ m ≤ 20 ∧ c ≤ 100 ∧ v = tpF m c) ∧ (tpOK x y = false → gI h' 121 0 = 1) := by
  have R0 : RM τ n p (8 * B) c B K (sI h 121 0 0) := R.th
  cases e1 : (decide (1 ≤ x) && decide (x ≤ 20)) with
  | false =>
    refine ⟨FP.dconst0, sI (sI h 121 0 0) 121 0 1, fun Q => ?_, Mo.sw R (R.sth2 0 1) (by show nx h ≤ _; omega) (by show sc h ≤ _; omega), rfl, fun w => ?_, fun _ => by rw [gI_sI, if_pos ⟨rfl, rfl⟩]⟩
    · simp only [↓e_Mdl_throughput_0, ↓e_Mdl_throughput_1, ↓e_Mdl_throughput_2, ↓e_Mdl_throughput_3, ↓e_Mdl_throughput_5, ↓e_Mdl_throughput_8, ↓e_Mdl_throughput_11, ↓e_Mdl_throughput_12, ↓e_Mdl_throughput_13, ↓e_Mdl_throughput_15, ↓e_Mdl_throughput_18, ↓e_Mdl_throughput_21, ↓e_Mdl_throughput_22, ↓e_Mdl_throughput_25, ↓e_Mdl_throughput_26, ↓e_Mdl_throughput_27, ↓e_Mdl_throughput_30, ↓e_Mdl_throughput_33, ↓e_Mdl_throughput_34, ↓e_Mdl_throughput_37, ↓e_Mdl_throughput_38, ↓e_Mdl_throughput_39, ↓e_Mdl_throughput_42, not_true_eq_false, not_false_eq_true, one0, true_or, or_true, eq_self, bI_z, bI_nz, bI_o, b_ft, bI_1, bI_0, ↓kC_l, ↓kC_r, Option.toList_some, Option.toList_none, List.cons_append, List.nil_append, s1_0, s1_1i, s1_1r, s1_1w, s1_1n, s1_s, s2_0, s2_1i, s2_1r, s2_1w, s2_1n, s2_s, gI_sI, gI_sR, gI_sL, gI_sD, gR_sI, gR_sR, gR_sL, gR_sD, gL_sI, gL_sR, gL_sL, gL_sD, gD_sI, gD_sR, gD_sL, gD_sD, isK_sI, isK_sR, isK_sL, isK_sD, inL_sI, inL_sR, inL_sL, inL_sD, nx_sI, nx_sR, nx_sL, nx_sD, kd_sI, kd_sR, kd_sL, kd_sD, ln_sI, ln_sR, ln_sL, ln_sD, ↓reduceIte, c8_n, c8_1, c8_2, c8_3, c8_4, Nat.reduceAdd, R.k, q_misIn, e1, q_stT _ R]
    · unfold tpOK at w
      rw [e1] at w
      cases w
  | true =>
    cases e2 : (decide (0 ≤ y) && decide (y ≤ 100)) with
    | false =>
      refine ⟨FP.dconst0, sI (sI h 121 0 0) 121 0 1, fun Q => ?_, Mo.sw R (R.sth2 0 1) (by show nx h ≤ _; omega) (by show sc h ≤ _; omega), rfl, fun w => ?_, fun _ => by rw [gI_sI, if_pos ⟨rfl, rfl⟩]⟩
      · simp only [↓e_Mdl_throughput_0, ↓e_Mdl_throughput_1, ↓e_Mdl_throughput_2, ↓e_Mdl_throughput_3, ↓e_Mdl_throughput_5, ↓e_Mdl_throughput_8, ↓e_Mdl_throughput_11, ↓e_Mdl_throughput_12, ↓e_Mdl_throughput_13, ↓e_Mdl_throughput_15, ↓e_Mdl_throughput_18, ↓e_Mdl_throughput_21, ↓e_Mdl_throughput_22, ↓e_Mdl_throughput_25, ↓e_Mdl_throughput_26, ↓e_Mdl_throughput_27, ↓e_Mdl_throughput_30, ↓e_Mdl_throughput_33, ↓e_Mdl_throughput_34, ↓e_Mdl_throughput_37, ↓e_Mdl_throughput_38, ↓e_Mdl_throughput_39, ↓e_Mdl_throughput_42, not_true_eq_false, not_false_eq_true, one0, true_or, or_true, eq_self, bI_z, bI_nz, bI_o, b_ft, bI_1, bI_0, ↓kC_l, ↓kC_r, Option.toList_some, Option.toList_none, List.cons_append, List.nil_append, s1_0, s1_1i, s1_1r, s1_1w, s1_1n, s1_s, s2_0, s2_1i, s2_1r, s2_1w, s2_1n, s2_s, gI_sI, gI_sR, gI_sL, gI_sD, gR_sI, gR_sR, gR_sL, gR_sD, gL_sI, gL_sR, gL_sL, gL_sD, gD_sI, gD_sR, gD_sL, gD_sD, isK_sI, isK_sR, isK_sL, isK_sD, inL_sI, inL_sR, inL_sL, inL_sD, nx_sI, nx_sR, nx_sL, nx_sD, kd_sI, kd_sR, kd_sL, kd_sD, ln_sI, ln_sR, ln_sL, ln_sD, ↓reduceIte, c8_n, c8_1, c8_2, c8_3, c8_4, Nat.reduceAdd, R.k, q_misIn, e1, e2, q_stT _ R]
      · unfold tpOK at w
        rw [e1, e2] at w
        cases w
    | true =>
      obtain ⟨m, m1, m2, rfl⟩ := i32_cases1 (a := 1) (b := 20) (by omega) e1 (by omega)
      obtain ⟨d, d1, rfl⟩ := i32_cases (b := 100) (by omega) e2
      refine ⟨tpF m d, sI h 121 0 0, fun Q => ?_, Mo.sw R (R.sth 0) (by show nx h ≤ _; omega) (by show sc h ≤ _; omega), rfl, fun _ => ⟨th0 h, m, d, rfl, rfl, m2, d1, rfl⟩, fun w => ?_⟩
      · simp only [↓e_Mdl_throughput_0, ↓e_Mdl_throughput_1, ↓e_Mdl_throughput_2, ↓e_Mdl_throughput_3, ↓e_Mdl_throughput_5, ↓e_Mdl_throughput_8, ↓e_Mdl_throughput_11, ↓e_Mdl_throughput_12, ↓e_Mdl_throughput_13, ↓e_Mdl_throughput_15, ↓e_Mdl_throughput_18, ↓e_Mdl_throughput_21, ↓e_Mdl_throughput_22, ↓e_Mdl_throughput_25, ↓e_Mdl_throughput_26, ↓e_Mdl_throughput_27, ↓e_Mdl_throughput_30, ↓e_Mdl_throughput_33, ↓e_Mdl_throughput_34, ↓e_Mdl_throughput_37, ↓e_Mdl_throughput_38, ↓e_Mdl_throughput_39, ↓e_Mdl_throughput_42, not_true_eq_false, not_false_eq_true, one0, true_or, or_true, eq_self, bI_z, bI_nz, bI_o, b_ft, bI_1, bI_0, ↓kC_l, ↓kC_r, Option.toList_some, Option.toList_none, List.cons_append, List.nil_append, s1_0, s1_1i, s1_1r, s1_1w, s1_1n, s1_s, s2_0, s2_1i, s2_1r, s2_1w, s2_1n, s2_s, gI_sI, gI_sR, gI_sL, gI_sD, gR_sI, gR_sR, gR_sL, gR_sD, gL_sI, gL_sR, gL_sL, gL_sD, gD_sI, gD_sR, gD_sL, gD_sD, isK_sI, isK_sR, isK_sL, isK_sD, inL_sI, inL_sR, inL_sL, inL_sD, nx_sI, nx_sR, nx_sL, nx_sD, kd_sI, kd_sR, kd_sL, kd_sD, ln_sI, ln_sR, ln_sL, ln_sD, ↓reduceIte, c8_n, c8_1, c8_2, c8_3, c8_4, Nat.reduceAdd, R.k, q_misIn, e1, e2, q_stF _ R, q_mtp _ m1 m2 d1]
      · unfold tpOK at w
        rw [e1, e2] at w
        cases w
theorem hx_bestChance (L : LV n B T h) (hB : B ≤ 2000) (W : FN n h) (hr : okR cM sM h 1 6 = true) (hO : isK h 125 kc_Out = true) (x0 : Int32) : ∃ k h', (∀ Q, WP Gm j_Law_bestChance 0 [some (.inr (.inl (some 1))), some (.inl x0), some (.inr (.inl (some 125))), none] [] h Q = Q (.inl (some (.inl k))) h') ∧ CC n (T + 1) h h' ∧ ((((decide (1 ≤ x0) && decide (x0 ≤ 20)) = false) ∧ k = 1) ∨ ∃ m, x0 = ii m ∧ 1 ≤ m ∧ m ≤ 20 ∧ k = 0 ∧ gL h' 125 0 = (ii (bcF m)).toInt64) := by
  have S := L.1.1.1
  cases e1 : (decide (1 ≤ x0) && decide (x0 ≤ 20)) with
  | false =>
    have r1 : ∀ Q, WP Gm j_S_bestChance 0 [some (.inr (.inl (some 1))), some (.inl x0), none, none, none, none, none, none] [] h Q = Q (.inr 0) (hN h kc_IllegalArgumentException 0 6) := fun Q => by simp only [↓e_S_bestChance_0, ↓e_S_bestChance_1, ↓e_S_bestChance_2, ↓e_S_bestChance_4, ↓e_S_bestChance_7, ↓e_S_bestChance_10, ↓e_S_bestChance_21, ↓e_S_bestChance_22, ↓e_S_bestChance_23, ↓e_S_bestChance_24, ↓e_S_bestChance_25, ↓e_S_bestChance_28, ↓e_S_bestChance_29, ↓e_S_bestChance_30, ↓e_S_bestChance_32, ↓e_S_bestChance_34, ↓e_S_bestChance_36, ↓e_S_bestChance_39, ↓e_S_bestChance_40, ↓e_S_bestChance_42, ↓e_S_bestChance_45, ↓e_S_bestChance_47, ↓e_S_bestChance_49, ↓e_S_bestChance_50, ↓e_S_bestChance_51, ↓e_S_bestChance_54, ↓e_S_bestChance_56, ↓e_S_bestChance_57, ↓e_S_bestChance_59, ↓e_S_bestChance_60, ↓e_S_bestChance_63, ↓e_S_bestChance_66, ↓e_S_bestChance_67, not_true_eq_false, not_false_eq_true, one0, true_or, or_true, eq_self, bI_z, bI_nz, bI_o, b_ft, bI_1, bI_0, ↓kC_l, ↓kC_r, Option.toList_some, Option.toList_none, List.cons_append, List.nil_append, s1_0, s1_1i, s1_1r, s1_1w, s1_1n, s1_s, s2_0, s2_1i, s2_1r, s2_1w, s2_1n, s2_s, gI_sI, gI_sR, gI_sL, gI_sD, gR_sI, gR_sR, gR_sL, gR_sD, gL_sI, gL_sR, gL_sL, gL_sD, gD_sI, gD_sR, gD_sL, gD_sD, isK_sI, isK_sR, isK_sL, isK_sD, inL_sI, inL_sR, inL_sL, inL_sD, nx_sI, nx_sR, nx_sL, nx_sD, kd_sI, kd_sR, kd_sL, kd_sD, ln_sI, ln_sR, ln_sL, ln_sD, ↓reduceIte, c8_n, c8_1, c8_2, c8_3, c8_4, Nat.reduceAdd, k_s S, k_land S, k_nodes S, k_hear S, k_routes S, k_traffic S, k_market S, g_cnt S, r_land S, r_routes S, r_traffic S, r_market S, r_nodes S, r_hear S, r_rland S, r_tland S, r_troutes S, q_isWithin, e1, hr]
    refine ⟨1, _, fun Q => ?_, CC.exc L hB W kc_IllegalArgumentException, Or.inl ⟨rfl, rfl⟩⟩
    simp only [↓e_Law_bestChance_0, ↓e_Law_bestChance_1, ↓e_Law_bestChance_2, ↓e_Law_bestChance_3, ↓e_Law_bestChance_6, ↓e_Law_bestChance_7, ↓e_Law_bestChance_10, ↓e_Law_bestChance_13, ↓e_Law_bestChance_14, ↓e_Law_bestChance_15, ↓e_Law_bestChance_16, ↓e_Law_bestChance_17, not_true_eq_false, not_false_eq_true, one0, true_or, or_true, eq_self, bI_z, bI_nz, bI_o, b_ft, bI_1, bI_0, ↓kC_l, ↓kC_r, Option.toList_some, Option.toList_none, List.cons_append, List.nil_append, s1_0, s1_1i, s1_1r, s1_1w, s1_1n, s1_s, s2_0, s2_1i, s2_1r, s2_1w, s2_1n, s2_s, gI_sI, gI_sR, gI_sL, gI_sD, gR_sI, gR_sR, gR_sL, gR_sD, gL_sI, gL_sR, gL_sL, gL_sD, gD_sI, gD_sR, gD_sL, gD_sD, isK_sI, isK_sR, isK_sL, isK_sD, inL_sI, inL_sR, inL_sL, inL_sD, nx_sI, nx_sR, nx_sL, nx_sD, kd_sI, kd_sR, kd_sL, kd_sD, ln_sI, ln_sR, ln_sL, ln_sD, ↓reduceIte, c8_n, c8_1, c8_2, c8_3, c8_4, Nat.reduceAdd, k_s S, r1, (show mHx_Law_bestChance 0 = some (14, 3) from rfl), ne_eq, Nat.reduceEqDiff, true_and]
  | true =>
    obtain ⟨m, m1, m2, rfl⟩ := i32_cases1 (a := 1) (b := 20) (by omega) e1 (by omega)
    have r1 : ∀ Q, WP Gm j_S_bestChance 0 [some (.inr (.inl (some 1))), some (.inl (ii m)), none, none, none, none, none, none] [] h Q = Q (.inl (some (.inl (ii (bcF m))))) h := fun Q => by
      rw [← q_sbc Q m1 m2 (k_s S)]
      simp only [↓e_S_bestChance_0, ↓e_S_bestChance_1, ↓e_S_bestChance_2, ↓e_S_bestChance_4, ↓e_S_bestChance_7, ↓e_S_bestChance_10, ↓e_S_bestChance_22, ↓e_S_bestChance_23, ↓e_S_bestChance_24, ↓e_S_bestChance_25, ↓e_S_bestChance_28, ↓e_S_bestChance_29, ↓e_S_bestChance_30, ↓e_S_bestChance_32, ↓e_S_bestChance_34, ↓e_S_bestChance_36, ↓e_S_bestChance_39, ↓e_S_bestChance_40, ↓e_S_bestChance_42, ↓e_S_bestChance_45, ↓e_S_bestChance_47, ↓e_S_bestChance_49, ↓e_S_bestChance_50, ↓e_S_bestChance_51, ↓e_S_bestChance_54, ↓e_S_bestChance_56, ↓e_S_bestChance_57, ↓e_S_bestChance_59, ↓e_S_bestChance_60, ↓e_S_bestChance_63, ↓e_S_bestChance_66, ↓e_S_bestChance_67, not_true_eq_false, not_false_eq_true, one0, true_or, or_true, eq_self, bI_z, bI_nz, bI_o, b_ft, bI_1, bI_0, ↓kC_l, ↓kC_r, Option.toList_some, Option.toList_none, List.cons_append, List.nil_append, s1_0, s1_1i, s1_1r, s1_1w, s1_1n, s1_s, s2_0, s2_1i, s2_1r, s2_1w, s2_1n, s2_s, gI_sI, gI_sR, gI_sL, gI_sD, gR_sI, gR_sR, gR_sL, gR_sD, gL_sI, gL_sR, gL_sL, gL_sD, gD_sI, gD_sR, gD_sL, gD_sD, isK_sI, isK_sR, isK_sL, isK_sD, inL_sI, inL_sR, inL_sL, inL_sD, nx_sI, nx_sR, nx_sL, nx_sD, kd_sI, kd_sR, kd_sL, kd_sD, ln_sI, ln_sR, ln_sL, ln_sD, ↓reduceIte, c8_n, c8_1, c8_2, c8_3, c8_4, Nat.reduceAdd, k_s S, k_land S, k_nodes S, k_hear S, k_routes S, k_traffic S, k_market S, g_cnt S, r_land S, r_routes S, r_traffic S, r_market S, r_nodes S, r_hear S, r_rland S, r_tland S, r_troutes S, q_isWithin, e1, Bool.true_eq_false]
    refine ⟨0, sL h 125 0 (ii (bcF m)).toInt64, fun Q => ?_, cc_sL (CC.refl L hB W) _ _ _ (by omega), Or.inr ⟨m, rfl, m1, m2, rfl, by rw [gL_sL, if_pos ⟨rfl, rfl⟩]⟩⟩
    simp only [↓e_Law_bestChance_0, ↓e_Law_bestChance_1, ↓e_Law_bestChance_2, ↓e_Law_bestChance_3, ↓e_Law_bestChance_6, ↓e_Law_bestChance_7, ↓e_Law_bestChance_10, ↓e_Law_bestChance_13, ↓e_Law_bestChance_14, ↓e_Law_bestChance_15, ↓e_Law_bestChance_16, ↓e_Law_bestChance_17, not_true_eq_false, not_false_eq_true, one0, true_or, or_true, eq_self, bI_z, bI_nz, bI_o, b_ft, bI_1, bI_0, ↓kC_l, ↓kC_r, Option.toList_some, Option.toList_none, List.cons_append, List.nil_append, s1_0, s1_1i, s1_1r, s1_1w, s1_1n, s1_s, s2_0, s2_1i, s2_1r, s2_1w, s2_1n, s2_s, gI_sI, gI_sR, gI_sL, gI_sD, gR_sI, gR_sR, gR_sL, gR_sD, gL_sI, gL_sR, gL_sL, gL_sD, gD_sI, gD_sR, gD_sL, gD_sD, isK_sI, isK_sR, isK_sL, isK_sD, inL_sI, inL_sR, inL_sL, inL_sD, nx_sI, nx_sR, nx_sL, nx_sD, kd_sI, kd_sR, kd_sL, kd_sD, ln_sI, ln_sR, ln_sL, ln_sD, ↓reduceIte, c8_n, c8_1, c8_2, c8_3, c8_4, Nat.reduceAdd, k_s S, r1, hO]
theorem qx_mbest (R : RM τ n p (8 * B) c B K h) (hn1 : nx h + 1000 ≤ 580300) (hs1 : sc h + 7000 ≤ 5700000) (x : Int32) :
    ∃ v h', (∀ Q, WP Gm j_Mdl_bestChance 0 [some (.inr (.inl (some 121))), some (.inl x), none, none] [] h Q = Q (.inl (some (.inl v))) h') ∧ Mo τ n c B K h h' ∧ ((((decide (1 ≤ x) && decide (x ≤ 20)) = false) ∧ gI h' 121 0 = 1) ∨ ∃ m, x = ii m ∧ 1 ≤ m ∧ m ≤ 20 ∧ gI h' 121 0 = 0 ∧ v = ii (bcF m)) := by
  have R0 : RM τ n p (8 * B) c B K (sI h 121 0 0) := R.th
  cases e1 : (decide (1 ≤ x) && decide (x ≤ 20)) with
  | false =>
    refine ⟨0, sI (sI h 121 0 0) 121 0 1, fun Q => ?_, Mo.sw R (R.sth2 0 1) (by show nx h ≤ _; omega) (by show sc h ≤ _; omega), Or.inl ⟨rfl, by rw [gI_sI, if_pos ⟨rfl, rfl⟩]⟩⟩
    simp only [↓e_Mdl_bestChance_0, ↓e_Mdl_bestChance_1, ↓e_Mdl_bestChance_2, ↓e_Mdl_bestChance_3, ↓e_Mdl_bestChance_5, ↓e_Mdl_bestChance_8, ↓e_Mdl_bestChance_11, ↓e_Mdl_bestChance_12, ↓e_Mdl_bestChance_15, ↓e_Mdl_bestChance_16, ↓e_Mdl_bestChance_17, ↓e_Mdl_bestChance_20, ↓e_Mdl_bestChance_23, ↓e_Mdl_bestChance_24, ↓e_Mdl_bestChance_25, ↓e_Mdl_bestChance_26, ↓e_Mdl_bestChance_27, ↓e_Mdl_bestChance_28, ↓e_Mdl_bestChance_29, ↓e_Mdl_bestChance_30, ↓e_Mdl_bestChance_32, ↓e_Mdl_bestChance_35, ↓e_Mdl_bestChance_36, ↓e_Mdl_bestChance_37, ↓e_Mdl_bestChance_40, ↓e_Mdl_bestChance_41, ↓e_Mdl_bestChance_42, ↓e_Mdl_bestChance_45, ↓e_Mdl_bestChance_46, ↓e_Mdl_bestChance_49, ↓e_Mdl_bestChance_50, ↓e_Mdl_bestChance_51, ↓e_Mdl_bestChance_54, ↓e_Mdl_bestChance_57, ↓e_Mdl_bestChance_58, not_true_eq_false, not_false_eq_true, one0, true_or, or_true, eq_self, bI_z, bI_nz, bI_o, b_ft, bI_1, bI_0, ↓kC_l, ↓kC_r, Option.toList_some, Option.toList_none, List.cons_append, List.nil_append, s1_0, s1_1i, s1_1r, s1_1w, s1_1n, s1_s, s2_0, s2_1i, s2_1r, s2_1w, s2_1n, s2_s, gI_sI, gI_sR, gI_sL, gI_sD, gR_sI, gR_sR, gR_sL, gR_sD, gL_sI, gL_sR, gL_sL, gL_sD, gD_sI, gD_sR, gD_sL, gD_sD, isK_sI, isK_sR, isK_sL, isK_sD, inL_sI, inL_sR, inL_sL, inL_sD, nx_sI, nx_sR, nx_sL, nx_sD, kd_sI, kd_sR, kd_sL, kd_sD, ln_sI, ln_sR, ln_sL, ln_sD, ↓reduceIte, c8_n, c8_1, c8_2, c8_3, c8_4, Nat.reduceAdd, R.k, q_misIn, e1, q_stT _ R]
  | true =>
    obtain ⟨m, m1, m2, rfl⟩ := i32_cases1 (a := 1) (b := 20) (by omega) e1 (by omega)
    refine ⟨ii (bcF m), sI h 121 0 0, fun Q => ?_, Mo.sw R (R.sth 0) (by show nx h ≤ _; omega) (by show sc h ≤ _; omega), Or.inr ⟨m, rfl, m1, m2, th0 h, rfl⟩⟩
    rw [← q_mbc Q m1 m2]
    simp only [↓e_Mdl_bestChance_0, ↓e_Mdl_bestChance_1, ↓e_Mdl_bestChance_2, ↓e_Mdl_bestChance_3, ↓e_Mdl_bestChance_5, ↓e_Mdl_bestChance_8, ↓e_Mdl_bestChance_11, ↓e_Mdl_bestChance_12, ↓e_Mdl_bestChance_15, ↓e_Mdl_bestChance_16, ↓e_Mdl_bestChance_17, ↓e_Mdl_bestChance_20, ↓e_Mdl_bestChance_23, ↓e_Mdl_bestChance_24, ↓e_Mdl_bestChance_26, ↓e_Mdl_bestChance_27, ↓e_Mdl_bestChance_28, ↓e_Mdl_bestChance_29, ↓e_Mdl_bestChance_30, ↓e_Mdl_bestChance_32, ↓e_Mdl_bestChance_35, ↓e_Mdl_bestChance_36, ↓e_Mdl_bestChance_37, ↓e_Mdl_bestChance_40, ↓e_Mdl_bestChance_41, ↓e_Mdl_bestChance_42, ↓e_Mdl_bestChance_45, ↓e_Mdl_bestChance_46, ↓e_Mdl_bestChance_49, ↓e_Mdl_bestChance_50, ↓e_Mdl_bestChance_51, ↓e_Mdl_bestChance_54, ↓e_Mdl_bestChance_57, ↓e_Mdl_bestChance_58, not_true_eq_false, not_false_eq_true, one0, true_or, or_true, eq_self, bI_z, bI_nz, bI_o, b_ft, bI_1, bI_0, ↓kC_l, ↓kC_r, Option.toList_some, Option.toList_none, List.cons_append, List.nil_append, s1_0, s1_1i, s1_1r, s1_1w, s1_1n, s1_s, s2_0, s2_1i, s2_1r, s2_1w, s2_1n, s2_s, gI_sI, gI_sR, gI_sL, gI_sD, gR_sI, gR_sR, gR_sL, gR_sD, gL_sI, gL_sR, gL_sL, gL_sD, gD_sI, gD_sR, gD_sL, gD_sD, isK_sI, isK_sR, isK_sL, isK_sD, inL_sI, inL_sR, inL_sL, inL_sD, nx_sI, nx_sR, nx_sL, nx_sD, kd_sI, kd_sR, kd_sL, kd_sD, ln_sI, ln_sR, ln_sL, ln_sD, ↓reduceIte, c8_n, c8_1, c8_2, c8_3, c8_4, Nat.reduceAdd, R.k, q_misIn, e1, q_stF _ R]
theorem d_node (I : LI L T h) (hT : 5 * T + 5 ≤ L) (hL : L ≤ 2560) (w5 w6 w7 w8 : Option MV) : ∃ h2 v5 v6 v7 v8, (∀ Q, WP Gm j_Law_law 152 [some (.inr (.inl (some 0))), some (.inr (.inl (some 1))), some (.inr (.inl (some 121))), some (.inr (.inl (some 125))), some (.inl (ii (5 * T))), w5, w6, w7, w8] [] h Q = WP Gm j_Law_law 1549 [some (.inr (.inl (some 0))), some (.inr (.inl (some 1))), some (.inr (.inl (some 121))), some (.inr (.inl (some 125))), some (.inl (ii (5 * T))), v5, v6, v7, v8] [] h2 Q) ∧ LI L (T + 1) h2 := by
  obtain ⟨n, B, τ, p, c, b9, x9, p9, m, α, Lv, hB, W, R, O, t125, ⟨s1, s2⟩, rn, rs, M, V, Cv, Rv⟩ := I
  have b2 := R.b2
  have cb := R.cb
  have S := Lv.1.1.1
  have hn8 := n8 S
  have hnx : 121 ≤ nx h := S.1.1
  have hr : okR cM sM h 1 6 = true := ok_big (by omega) (by omega)
  have Cv0 := Cv.t hn8 0
  have j1 : inL h 0 (ii (5 * T + 1)) = true := inL_n (by omega) (by rw [s2]; omega)
  have t1 : (ii (5 * T + 1)).toNatClampNeg = 5 * T + 1 := ii_nat (by omega)
  have a1 : ii (5 * T) + 1 = ii (5 * T + 1) := ii_add _ 1
  have j2 : inL h 0 (ii (5 * T + 2)) = true := inL_n (by omega) (by rw [s2]; omega)
  have t2 : (ii (5 * T + 2)).toNatClampNeg = 5 * T + 2 := ii_nat (by omega)
  have a2 : ii (5 * T) + 2 = ii (5 * T + 2) := ii_add _ 2
  have j3 : inL h 0 (ii (5 * T + 3)) = true := inL_n (by omega) (by rw [s2]; omega)
  have t3 : (ii (5 * T + 3)).toNatClampNeg = 5 * T + 3 := ii_nat (by omega)
  have a3 : ii (5 * T) + 3 = ii (5 * T + 3) := ii_add _ 3
  have j4 : inL h 0 (ii (5 * T + 4)) = true := inL_n (by omega) (by rw [s2]; omega)
  have t4 : (ii (5 * T + 4)).toNatClampNeg = 5 * T + 4 := ii_nat (by omega)
  have a4 : ii (5 * T) + 4 = ii (5 * T + 4) := ii_add _ 4
  by_cases z0 : gI h 0 (5 * T + 4) = 0
  · obtain ⟨k, h1, e1, cc, k1, k2, Y⟩ := hv_node Lv hB W hr O Cv0  (gI h 0 (5 * T + 1)) (gI h 0 (5 * T + 2)) (gI h 0 (5 * T + 3)) (Or.inl rfl)
    have R1 := R.cls cc
    have V1 := V.cls R.F cc
    have M1 := M.up cc (by omega) Lv.1.1.1.1.1
    have A1 := Rv.cls R cc
    have A2 := A1.th R1 0
    have n4 := cc.2.2.2.2.2.2.1
    have n5 := cc.2.2.2.2.2.2.2
    have q1 := cc_k cc s1
    have q2 : ln h1 0 = L := by rw [(cc.2.2.2.2.1 0 (isK_spec s1).1).2, s2]
    have g1 : inL h1 0 (ii (5 * T + 1)) = true := inL_n (by omega) (by rw [q2]; omega)
    have y1 : gI h1 0 (5 * T + 1) = gI h 0 (5 * T + 1) := (cc.2.2.2.1 0 _ (Or.inl rfl) (isK_spec s1).1).1
    have g2 : inL h1 0 (ii (5 * T + 2)) = true := inL_n (by omega) (by rw [q2]; omega)
    have y2 : gI h1 0 (5 * T + 2) = gI h 0 (5 * T + 2) := (cc.2.2.2.1 0 _ (Or.inl rfl) (isK_spec s1).1).1
    have g3 : inL h1 0 (ii (5 * T + 3)) = true := inL_n (by omega) (by rw [q2]; omega)
    have y3 : gI h1 0 (5 * T + 3) = gI h 0 (5 * T + 3) := (cc.2.2.2.1 0 _ (Or.inl rfl) (isK_spec s1).1).1
    have g4 : inL h1 0 (ii (5 * T + 4)) = true := inL_n (by omega) (by rw [q2]; omega)
    have y4 : gI h1 0 (5 * T + 4) = gI h 0 (5 * T + 4) := (cc.2.2.2.1 0 _ (Or.inl rfl) (isK_spec s1).1).1
    obtain ⟨v, h2, e2, z1, z2, mo⟩ := qx_mnode R1 A2  V1  (by omega) (by omega) (gI h 0 (5 * T + 1)) (gI h 0 (5 * T + 2)) (gI h 0 (5 * T + 3)) (Or.inl rfl)
    have K2 : isK h2 121 kc_Mdl = true := mo_k mo.g
    have O2 : isK h2 125 kc_Out = true := mo_o mo.g (cc_k cc O)
    have keep : gL h2 125 0 = gL h1 125 0 := mo_l mo.g t125
    have link : (gI h2 121 0 = k ∧ ¬ k = 0) ∨ (gI h2 121 0 = k ∧ k = 0 ∧ gL h2 125 0 = v.toInt64) := by
      by_cases e : k = 0
      · exact Or.inr ⟨z1.trans k1.symm, e, by rw [keep, k2 e, z2 (k1.symm.trans e)]⟩
      · exact Or.inl ⟨z1.trans k1.symm, e⟩
    refine ⟨h2, some (.inl k), some (.inl v), w7, w8, fun Q => ?_, li_go cc Y R O t125 ⟨s1, s2⟩ rn rs mo M1⟩
    rcases link with ⟨l1, l2⟩ | ⟨l1, l2, l3⟩
    · simp only [↓e_Law_law_152, ↓e_Law_law_153, ↓e_Law_law_154, ↓e_Law_law_156, ↓e_Law_law_157, ↓e_Law_law_158, ↓e_Law_law_159, ↓e_Law_law_160, ↓e_Law_law_162, ↓e_Law_law_163, ↓e_Law_law_164, ↓e_Law_law_165, ↓e_Law_law_166, ↓e_Law_law_168, ↓e_Law_law_169, ↓e_Law_law_170, ↓e_Law_law_171, ↓e_Law_law_172, ↓e_Law_law_174, ↓e_Law_law_175, ↓e_Law_law_176, ↓e_Law_law_177, ↓e_Law_law_180, ↓e_Law_law_181, ↓e_Law_law_184, ↓e_Law_law_185, ↓e_Law_law_186, ↓e_Law_law_189, ↓e_Law_law_191, ↓e_Law_law_192, ↓e_Law_law_193, ↓e_Law_law_195, ↓e_Law_law_196, ↓e_Law_law_197, ↓e_Law_law_198, ↓e_Law_law_199, ↓e_Law_law_201, ↓e_Law_law_202, ↓e_Law_law_203, ↓e_Law_law_204, ↓e_Law_law_205, ↓e_Law_law_207, ↓e_Law_law_208, ↓e_Law_law_209, ↓e_Law_law_210, ↓e_Law_law_211, ↓e_Law_law_213, ↓e_Law_law_214, ↓e_Law_law_215, ↓e_Law_law_216, ↓e_Law_law_219, ↓e_Law_law_220, ↓e_Law_law_223, ↓e_Law_law_224, ↓e_Law_law_227, ↓e_Law_law_229, ↓e_Law_law_230, ↓e_Law_law_233, ↓e_Law_law_235, ↓e_Law_law_238, ↓e_Law_law_239, ↓e_Law_law_240, ↓e_Law_law_242, ↓e_Law_law_245, ↓e_Law_law_246, ↓e_Law_law_249, ↓e_Law_law_251, ↓e_Law_law_252, ↓e_Law_law_253, ↓e_Law_law_256, ↓e_Law_law_257, ↓e_Law_law_258, not_true_eq_false, not_false_eq_true, one0, true_or, or_true, eq_self, bI_z, bI_nz, bI_o, b_ft, bI_1, bI_0, ↓kC_l, ↓kC_r, Option.toList_some, Option.toList_none, List.cons_append, List.nil_append, s1_0, s1_1i, s1_1r, s1_1w, s1_1n, s1_s, s2_0, s2_1i, s2_1r, s2_1w, s2_1n, s2_s, gI_sI, gI_sR, gI_sL, gI_sD, gR_sI, gR_sR, gR_sL, gR_sD, gL_sI, gL_sR, gL_sL, gL_sD, gD_sI, gD_sR, gD_sL, gD_sD, isK_sI, isK_sR, isK_sL, isK_sD, inL_sI, inL_sR, inL_sL, inL_sD, nx_sI, nx_sR, nx_sL, nx_sD, kd_sI, kd_sR, kd_sL, kd_sD, ln_sI, ln_sR, ln_sL, ln_sD, ↓reduceIte, c8_n, c8_1, c8_2, c8_3, c8_4, Nat.reduceAdd, ii_succ, s1, j1, t1, a1, j2, t2, a2, j3, t3, a3, j4, t4, a4, q1, g1, y1, g2, y2, g3, y3, g4, y4, z0, k_s S, e1, R1.k, e2, ↓e_Mdl_thrown_0, ↓e_Mdl_thrown_1, ↓e_Mdl_thrown_4, K2, O2, l1, l2, not_false_eq_true]
    · simp only [↓e_Law_law_152, ↓e_Law_law_153, ↓e_Law_law_154, ↓e_Law_law_156, ↓e_Law_law_157, ↓e_Law_law_158, ↓e_Law_law_159, ↓e_Law_law_160, ↓e_Law_law_162, ↓e_Law_law_163, ↓e_Law_law_164, ↓e_Law_law_165, ↓e_Law_law_166, ↓e_Law_law_168, ↓e_Law_law_169, ↓e_Law_law_170, ↓e_Law_law_171, ↓e_Law_law_172, ↓e_Law_law_174, ↓e_Law_law_175, ↓e_Law_law_176, ↓e_Law_law_177, ↓e_Law_law_180, ↓e_Law_law_181, ↓e_Law_law_184, ↓e_Law_law_185, ↓e_Law_law_186, ↓e_Law_law_189, ↓e_Law_law_191, ↓e_Law_law_192, ↓e_Law_law_193, ↓e_Law_law_195, ↓e_Law_law_196, ↓e_Law_law_197, ↓e_Law_law_198, ↓e_Law_law_199, ↓e_Law_law_201, ↓e_Law_law_202, ↓e_Law_law_203, ↓e_Law_law_204, ↓e_Law_law_205, ↓e_Law_law_207, ↓e_Law_law_208, ↓e_Law_law_209, ↓e_Law_law_210, ↓e_Law_law_211, ↓e_Law_law_213, ↓e_Law_law_214, ↓e_Law_law_215, ↓e_Law_law_216, ↓e_Law_law_219, ↓e_Law_law_220, ↓e_Law_law_223, ↓e_Law_law_224, ↓e_Law_law_227, ↓e_Law_law_229, ↓e_Law_law_230, ↓e_Law_law_233, ↓e_Law_law_235, ↓e_Law_law_238, ↓e_Law_law_239, ↓e_Law_law_240, ↓e_Law_law_242, ↓e_Law_law_245, ↓e_Law_law_246, ↓e_Law_law_249, ↓e_Law_law_251, ↓e_Law_law_252, ↓e_Law_law_253, ↓e_Law_law_256, ↓e_Law_law_257, ↓e_Law_law_258, not_true_eq_false, not_false_eq_true, one0, true_or, or_true, eq_self, bI_z, bI_nz, bI_o, b_ft, bI_1, bI_0, ↓kC_l, ↓kC_r, Option.toList_some, Option.toList_none, List.cons_append, List.nil_append, s1_0, s1_1i, s1_1r, s1_1w, s1_1n, s1_s, s2_0, s2_1i, s2_1r, s2_1w, s2_1n, s2_s, gI_sI, gI_sR, gI_sL, gI_sD, gR_sI, gR_sR, gR_sL, gR_sD, gL_sI, gL_sR, gL_sL, gL_sD, gD_sI, gD_sR, gD_sL, gD_sD, isK_sI, isK_sR, isK_sL, isK_sD, inL_sI, inL_sR, inL_sL, inL_sD, nx_sI, nx_sR, nx_sL, nx_sD, kd_sI, kd_sR, kd_sL, kd_sD, ln_sI, ln_sR, ln_sL, ln_sD, ↓reduceIte, c8_n, c8_1, c8_2, c8_3, c8_4, Nat.reduceAdd, ii_succ, s1, j1, t1, a1, j2, t2, a2, j3, t3, a3, j4, t4, a4, q1, g1, y1, g2, y2, g3, y3, g4, y4, z0, k_s S, e1, R1.k, e2, ↓e_Mdl_thrown_0, ↓e_Mdl_thrown_1, ↓e_Mdl_thrown_4, K2, O2, l1, l2, l3, lg_cmp_self, not_true_eq_false]
  · obtain ⟨k, h1, e1, cc, k1, k2, Y⟩ := hv_node Lv hB W hr O Cv0  (gI h 0 (5 * T + 1)) (gI h 0 (5 * T + 2)) (gI h 0 (5 * T + 3)) (Or.inr rfl)
    have R1 := R.cls cc
    have V1 := V.cls R.F cc
    have M1 := M.up cc (by omega) Lv.1.1.1.1.1
    have A1 := Rv.cls R cc
    have A2 := A1.th R1 0
    have n4 := cc.2.2.2.2.2.2.1
    have n5 := cc.2.2.2.2.2.2.2
    have q1 := cc_k cc s1
    have q2 : ln h1 0 = L := by rw [(cc.2.2.2.2.1 0 (isK_spec s1).1).2, s2]
    have g1 : inL h1 0 (ii (5 * T + 1)) = true := inL_n (by omega) (by rw [q2]; omega)
    have y1 : gI h1 0 (5 * T + 1) = gI h 0 (5 * T + 1) := (cc.2.2.2.1 0 _ (Or.inl rfl) (isK_spec s1).1).1
    have g2 : inL h1 0 (ii (5 * T + 2)) = true := inL_n (by omega) (by rw [q2]; omega)
    have y2 : gI h1 0 (5 * T + 2) = gI h 0 (5 * T + 2) := (cc.2.2.2.1 0 _ (Or.inl rfl) (isK_spec s1).1).1
    have g3 : inL h1 0 (ii (5 * T + 3)) = true := inL_n (by omega) (by rw [q2]; omega)
    have y3 : gI h1 0 (5 * T + 3) = gI h 0 (5 * T + 3) := (cc.2.2.2.1 0 _ (Or.inl rfl) (isK_spec s1).1).1
    have g4 : inL h1 0 (ii (5 * T + 4)) = true := inL_n (by omega) (by rw [q2]; omega)
    have y4 : gI h1 0 (5 * T + 4) = gI h 0 (5 * T + 4) := (cc.2.2.2.1 0 _ (Or.inl rfl) (isK_spec s1).1).1
    obtain ⟨v, h2, e2, z1, z2, mo⟩ := qx_mnode R1 A2  V1  (by omega) (by omega) (gI h 0 (5 * T + 1)) (gI h 0 (5 * T + 2)) (gI h 0 (5 * T + 3)) (Or.inr rfl)
    have K2 : isK h2 121 kc_Mdl = true := mo_k mo.g
    have O2 : isK h2 125 kc_Out = true := mo_o mo.g (cc_k cc O)
    have keep : gL h2 125 0 = gL h1 125 0 := mo_l mo.g t125
    have link : (gI h2 121 0 = k ∧ ¬ k = 0) ∨ (gI h2 121 0 = k ∧ k = 0 ∧ gL h2 125 0 = v.toInt64) := by
      by_cases e : k = 0
      · exact Or.inr ⟨z1.trans k1.symm, e, by rw [keep, k2 e, z2 (k1.symm.trans e)]⟩
      · exact Or.inl ⟨z1.trans k1.symm, e⟩
    refine ⟨h2, some (.inl k), some (.inl v), w7, w8, fun Q => ?_, li_go cc Y R O t125 ⟨s1, s2⟩ rn rs mo M1⟩
    rcases link with ⟨l1, l2⟩ | ⟨l1, l2, l3⟩
    · simp only [↓e_Law_law_152, ↓e_Law_law_153, ↓e_Law_law_154, ↓e_Law_law_156, ↓e_Law_law_157, ↓e_Law_law_158, ↓e_Law_law_159, ↓e_Law_law_160, ↓e_Law_law_162, ↓e_Law_law_163, ↓e_Law_law_164, ↓e_Law_law_165, ↓e_Law_law_166, ↓e_Law_law_168, ↓e_Law_law_169, ↓e_Law_law_170, ↓e_Law_law_171, ↓e_Law_law_172, ↓e_Law_law_174, ↓e_Law_law_175, ↓e_Law_law_176, ↓e_Law_law_177, ↓e_Law_law_180, ↓e_Law_law_181, ↓e_Law_law_184, ↓e_Law_law_185, ↓e_Law_law_186, ↓e_Law_law_189, ↓e_Law_law_191, ↓e_Law_law_192, ↓e_Law_law_193, ↓e_Law_law_195, ↓e_Law_law_196, ↓e_Law_law_197, ↓e_Law_law_198, ↓e_Law_law_199, ↓e_Law_law_201, ↓e_Law_law_202, ↓e_Law_law_203, ↓e_Law_law_204, ↓e_Law_law_205, ↓e_Law_law_207, ↓e_Law_law_208, ↓e_Law_law_209, ↓e_Law_law_210, ↓e_Law_law_211, ↓e_Law_law_213, ↓e_Law_law_214, ↓e_Law_law_215, ↓e_Law_law_216, ↓e_Law_law_219, ↓e_Law_law_220, ↓e_Law_law_223, ↓e_Law_law_224, ↓e_Law_law_227, ↓e_Law_law_229, ↓e_Law_law_230, ↓e_Law_law_233, ↓e_Law_law_235, ↓e_Law_law_238, ↓e_Law_law_239, ↓e_Law_law_240, ↓e_Law_law_242, ↓e_Law_law_245, ↓e_Law_law_246, ↓e_Law_law_249, ↓e_Law_law_251, ↓e_Law_law_252, ↓e_Law_law_253, ↓e_Law_law_256, ↓e_Law_law_257, ↓e_Law_law_258, not_true_eq_false, not_false_eq_true, one0, true_or, or_true, eq_self, bI_z, bI_nz, bI_o, b_ft, bI_1, bI_0, ↓kC_l, ↓kC_r, Option.toList_some, Option.toList_none, List.cons_append, List.nil_append, s1_0, s1_1i, s1_1r, s1_1w, s1_1n, s1_s, s2_0, s2_1i, s2_1r, s2_1w, s2_1n, s2_s, gI_sI, gI_sR, gI_sL, gI_sD, gR_sI, gR_sR, gR_sL, gR_sD, gL_sI, gL_sR, gL_sL, gL_sD, gD_sI, gD_sR, gD_sL, gD_sD, isK_sI, isK_sR, isK_sL, isK_sD, inL_sI, inL_sR, inL_sL, inL_sD, nx_sI, nx_sR, nx_sL, nx_sD, kd_sI, kd_sR, kd_sL, kd_sD, ln_sI, ln_sR, ln_sL, ln_sD, ↓reduceIte, c8_n, c8_1, c8_2, c8_3, c8_4, Nat.reduceAdd, ii_succ, s1, j1, t1, a1, j2, t2, a2, j3, t3, a3, j4, t4, a4, q1, g1, y1, g2, y2, g3, y3, g4, y4, z0, k_s S, e1, R1.k, e2, ↓e_Mdl_thrown_0, ↓e_Mdl_thrown_1, ↓e_Mdl_thrown_4, K2, O2, l1, l2, not_false_eq_true]
    · simp only [↓e_Law_law_152, ↓e_Law_law_153, ↓e_Law_law_154, ↓e_Law_law_156, ↓e_Law_law_157, ↓e_Law_law_158, ↓e_Law_law_159, ↓e_Law_law_160, ↓e_Law_law_162, ↓e_Law_law_163, ↓e_Law_law_164, ↓e_Law_law_165, ↓e_Law_law_166, ↓e_Law_law_168, ↓e_Law_law_169, ↓e_Law_law_170, ↓e_Law_law_171, ↓e_Law_law_172, ↓e_Law_law_174, ↓e_Law_law_175, ↓e_Law_law_176, ↓e_Law_law_177, ↓e_Law_law_180, ↓e_Law_law_181, ↓e_Law_law_184, ↓e_Law_law_185, ↓e_Law_law_186, ↓e_Law_law_189, ↓e_Law_law_191, ↓e_Law_law_192, ↓e_Law_law_193, ↓e_Law_law_195, ↓e_Law_law_196, ↓e_Law_law_197, ↓e_Law_law_198, ↓e_Law_law_199, ↓e_Law_law_201, ↓e_Law_law_202, ↓e_Law_law_203, ↓e_Law_law_204, ↓e_Law_law_205, ↓e_Law_law_207, ↓e_Law_law_208, ↓e_Law_law_209, ↓e_Law_law_210, ↓e_Law_law_211, ↓e_Law_law_213, ↓e_Law_law_214, ↓e_Law_law_215, ↓e_Law_law_216, ↓e_Law_law_219, ↓e_Law_law_220, ↓e_Law_law_223, ↓e_Law_law_224, ↓e_Law_law_227, ↓e_Law_law_229, ↓e_Law_law_230, ↓e_Law_law_233, ↓e_Law_law_235, ↓e_Law_law_238, ↓e_Law_law_239, ↓e_Law_law_240, ↓e_Law_law_242, ↓e_Law_law_245, ↓e_Law_law_246, ↓e_Law_law_249, ↓e_Law_law_251, ↓e_Law_law_252, ↓e_Law_law_253, ↓e_Law_law_256, ↓e_Law_law_257, ↓e_Law_law_258, not_true_eq_false, not_false_eq_true, one0, true_or, or_true, eq_self, bI_z, bI_nz, bI_o, b_ft, bI_1, bI_0, ↓kC_l, ↓kC_r, Option.toList_some, Option.toList_none, List.cons_append, List.nil_append, s1_0, s1_1i, s1_1r, s1_1w, s1_1n, s1_s, s2_0, s2_1i, s2_1r, s2_1w, s2_1n, s2_s, gI_sI, gI_sR, gI_sL, gI_sD, gR_sI, gR_sR, gR_sL, gR_sD, gL_sI, gL_sR, gL_sL, gL_sD, gD_sI, gD_sR, gD_sL, gD_sD, isK_sI, isK_sR, isK_sL, isK_sD, inL_sI, inL_sR, inL_sL, inL_sD, nx_sI, nx_sR, nx_sL, nx_sD, kd_sI, kd_sR, kd_sL, kd_sD, ln_sI, ln_sR, ln_sL, ln_sD, ↓reduceIte, c8_n, c8_1, c8_2, c8_3, c8_4, Nat.reduceAdd, ii_succ, s1, j1, t1, a1, j2, t2, a2, j3, t3, a3, j4, t4, a4, q1, g1, y1, g2, y2, g3, y3, g4, y4, z0, k_s S, e1, R1.k, e2, ↓e_Mdl_thrown_0, ↓e_Mdl_thrown_1, ↓e_Mdl_thrown_4, K2, O2, l1, l2, l3, lg_cmp_self, not_true_eq_false]
theorem d_move (I : LI L T h) (hT : 5 * T + 5 ≤ L) (hL : L ≤ 2560) (w5 w6 w7 w8 : Option MV) : ∃ h2 v5 v6 v7 v8, (∀ Q, WP Gm j_Law_law 261 [some (.inr (.inl (some 0))), some (.inr (.inl (some 1))), some (.inr (.inl (some 121))), some (.inr (.inl (some 125))), some (.inl (ii (5 * T))), w5, w6, w7, w8] [] h Q = WP Gm j_Law_law 1549 [some (.inr (.inl (some 0))), some (.inr (.inl (some 1))), some (.inr (.inl (some 121))), some (.inr (.inl (some 125))), some (.inl (ii (5 * T))), v5, v6, v7, v8] [] h2 Q) ∧ LI L (T + 1) h2 := by
  obtain ⟨n, B, τ, p, c, b9, x9, p9, m, α, Lv, hB, W, R, O, t125, ⟨s1, s2⟩, rn, rs, M, V, Cv, Rv⟩ := I
  have b2 := R.b2
  have cb := R.cb
  have S := Lv.1.1.1
  have hn8 := n8 S
  have hnx : 121 ≤ nx h := S.1.1
  have hr : okR cM sM h 1 6 = true := ok_big (by omega) (by omega)
  have Cv0 := Cv.t hn8 0
  have j1 : inL h 0 (ii (5 * T + 1)) = true := inL_n (by omega) (by rw [s2]; omega)
  have t1 : (ii (5 * T + 1)).toNatClampNeg = 5 * T + 1 := ii_nat (by omega)
  have a1 : ii (5 * T) + 1 = ii (5 * T + 1) := ii_add _ 1
  have j2 : inL h 0 (ii (5 * T + 2)) = true := inL_n (by omega) (by rw [s2]; omega)
  have t2 : (ii (5 * T + 2)).toNatClampNeg = 5 * T + 2 := ii_nat (by omega)
  have a2 : ii (5 * T) + 2 = ii (5 * T + 2) := ii_add _ 2
  have j3 : inL h 0 (ii (5 * T + 3)) = true := inL_n (by omega) (by rw [s2]; omega)
  have t3 : (ii (5 * T + 3)).toNatClampNeg = 5 * T + 3 := ii_nat (by omega)
  have a3 : ii (5 * T) + 3 = ii (5 * T + 3) := ii_add _ 3
  obtain ⟨k, h1, e1, cc, k1, k2, Y⟩ := hv_move Lv hB W hr O Cv0  (gI h 0 (5 * T + 1)) (gI h 0 (5 * T + 2)) (gI h 0 (5 * T + 3))
  have R1 := R.cls cc
  have V1 := V.cls R.F cc
  have M1 := M.up cc (by omega) Lv.1.1.1.1.1
  have A1 := Rv.cls R cc
  have A2 := A1.th R1 0
  have n4 := cc.2.2.2.2.2.2.1
  have n5 := cc.2.2.2.2.2.2.2
  have q1 := cc_k cc s1
  have q2 : ln h1 0 = L := by rw [(cc.2.2.2.2.1 0 (isK_spec s1).1).2, s2]
  have g1 : inL h1 0 (ii (5 * T + 1)) = true := inL_n (by omega) (by rw [q2]; omega)
  have y1 : gI h1 0 (5 * T + 1) = gI h 0 (5 * T + 1) := (cc.2.2.2.1 0 _ (Or.inl rfl) (isK_spec s1).1).1
  have g2 : inL h1 0 (ii (5 * T + 2)) = true := inL_n (by omega) (by rw [q2]; omega)
  have y2 : gI h1 0 (5 * T + 2) = gI h 0 (5 * T + 2) := (cc.2.2.2.1 0 _ (Or.inl rfl) (isK_spec s1).1).1
  have g3 : inL h1 0 (ii (5 * T + 3)) = true := inL_n (by omega) (by rw [q2]; omega)
  have y3 : gI h1 0 (5 * T + 3) = gI h 0 (5 * T + 3) := (cc.2.2.2.1 0 _ (Or.inl rfl) (isK_spec s1).1).1
  obtain ⟨v, h2, e2, z1, z2, mo⟩ := qx_mmove R1 A2  V1  (by omega) (by omega) (gI h 0 (5 * T + 1)) (gI h 0 (5 * T + 2)) (gI h 0 (5 * T + 3))
  have K2 : isK h2 121 kc_Mdl = true := mo_k mo.g
  have O2 : isK h2 125 kc_Out = true := mo_o mo.g (cc_k cc O)
  have keep : gL h2 125 0 = gL h1 125 0 := mo_l mo.g t125
  have link : (gI h2 121 0 = k ∧ ¬ k = 0) ∨ (gI h2 121 0 = k ∧ k = 0 ∧ gL h2 125 0 = v.toInt64) := by
    by_cases e : k = 0
    · exact Or.inr ⟨z1.trans k1.symm, e, by rw [keep, k2 e, z2 (k1.symm.trans e)]⟩
    · exact Or.inl ⟨z1.trans k1.symm, e⟩
  refine ⟨h2, some (.inl k), some (.inl v), w7, w8, fun Q => ?_, li_go cc Y R O t125 ⟨s1, s2⟩ rn rs mo M1⟩
  rcases link with ⟨l1, l2⟩ | ⟨l1, l2, l3⟩
  · simp only [↓e_Law_law_261, ↓e_Law_law_262, ↓e_Law_law_263, ↓e_Law_law_265, ↓e_Law_law_266, ↓e_Law_law_267, ↓e_Law_law_268, ↓e_Law_law_269, ↓e_Law_law_271, ↓e_Law_law_272, ↓e_Law_law_273, ↓e_Law_law_274, ↓e_Law_law_275, ↓e_Law_law_277, ↓e_Law_law_278, ↓e_Law_law_279, ↓e_Law_law_280, ↓e_Law_law_281, ↓e_Law_law_284, ↓e_Law_law_286, ↓e_Law_law_287, ↓e_Law_law_288, ↓e_Law_law_290, ↓e_Law_law_291, ↓e_Law_law_292, ↓e_Law_law_293, ↓e_Law_law_294, ↓e_Law_law_296, ↓e_Law_law_297, ↓e_Law_law_298, ↓e_Law_law_299, ↓e_Law_law_300, ↓e_Law_law_302, ↓e_Law_law_303, ↓e_Law_law_304, ↓e_Law_law_305, ↓e_Law_law_308, ↓e_Law_law_310, ↓e_Law_law_311, ↓e_Law_law_314, ↓e_Law_law_316, ↓e_Law_law_319, ↓e_Law_law_320, ↓e_Law_law_321, ↓e_Law_law_323, ↓e_Law_law_326, ↓e_Law_law_327, ↓e_Law_law_330, ↓e_Law_law_332, ↓e_Law_law_333, ↓e_Law_law_334, ↓e_Law_law_337, ↓e_Law_law_338, ↓e_Law_law_339, not_true_eq_false, not_false_eq_true, one0, true_or, or_true, eq_self, bI_z, bI_nz, bI_o, b_ft, bI_1, bI_0, ↓kC_l, ↓kC_r, Option.toList_some, Option.toList_none, List.cons_append, List.nil_append, s1_0, s1_1i, s1_1r, s1_1w, s1_1n, s1_s, s2_0, s2_1i, s2_1r, s2_1w, s2_1n, s2_s, gI_sI, gI_sR, gI_sL, gI_sD, gR_sI, gR_sR, gR_sL, gR_sD, gL_sI, gL_sR, gL_sL, gL_sD, gD_sI, gD_sR, gD_sL, gD_sD, isK_sI, isK_sR, isK_sL, isK_sD, inL_sI, inL_sR, inL_sL, inL_sD, nx_sI, nx_sR, nx_sL, nx_sD, kd_sI, kd_sR, kd_sL, kd_sD, ln_sI, ln_sR, ln_sL, ln_sD, ↓reduceIte, c8_n, c8_1, c8_2, c8_3, c8_4, Nat.reduceAdd, ii_succ, s1, j1, t1, a1, j2, t2, a2, j3, t3, a3, q1, g1, y1, g2, y2, g3, y3, k_s S, e1, R1.k, e2, ↓e_Mdl_thrown_0, ↓e_Mdl_thrown_1, ↓e_Mdl_thrown_4, K2, O2, l1, l2, not_false_eq_true]
  · simp only [↓e_Law_law_261, ↓e_Law_law_262, ↓e_Law_law_263, ↓e_Law_law_265, ↓e_Law_law_266, ↓e_Law_law_267, ↓e_Law_law_268, ↓e_Law_law_269, ↓e_Law_law_271, ↓e_Law_law_272, ↓e_Law_law_273, ↓e_Law_law_274, ↓e_Law_law_275, ↓e_Law_law_277, ↓e_Law_law_278, ↓e_Law_law_279, ↓e_Law_law_280, ↓e_Law_law_281, ↓e_Law_law_284, ↓e_Law_law_286, ↓e_Law_law_287, ↓e_Law_law_288, ↓e_Law_law_290, ↓e_Law_law_291, ↓e_Law_law_292, ↓e_Law_law_293, ↓e_Law_law_294, ↓e_Law_law_296, ↓e_Law_law_297, ↓e_Law_law_298, ↓e_Law_law_299, ↓e_Law_law_300, ↓e_Law_law_302, ↓e_Law_law_303, ↓e_Law_law_304, ↓e_Law_law_305, ↓e_Law_law_308, ↓e_Law_law_310, ↓e_Law_law_311, ↓e_Law_law_314, ↓e_Law_law_316, ↓e_Law_law_319, ↓e_Law_law_320, ↓e_Law_law_321, ↓e_Law_law_323, ↓e_Law_law_326, ↓e_Law_law_327, ↓e_Law_law_330, ↓e_Law_law_332, ↓e_Law_law_333, ↓e_Law_law_334, ↓e_Law_law_337, ↓e_Law_law_338, ↓e_Law_law_339, not_true_eq_false, not_false_eq_true, one0, true_or, or_true, eq_self, bI_z, bI_nz, bI_o, b_ft, bI_1, bI_0, ↓kC_l, ↓kC_r, Option.toList_some, Option.toList_none, List.cons_append, List.nil_append, s1_0, s1_1i, s1_1r, s1_1w, s1_1n, s1_s, s2_0, s2_1i, s2_1r, s2_1w, s2_1n, s2_s, gI_sI, gI_sR, gI_sL, gI_sD, gR_sI, gR_sR, gR_sL, gR_sD, gL_sI, gL_sR, gL_sL, gL_sD, gD_sI, gD_sR, gD_sL, gD_sD, isK_sI, isK_sR, isK_sL, isK_sD, inL_sI, inL_sR, inL_sL, inL_sD, nx_sI, nx_sR, nx_sL, nx_sD, kd_sI, kd_sR, kd_sL, kd_sD, ln_sI, ln_sR, ln_sL, ln_sD, ↓reduceIte, c8_n, c8_1, c8_2, c8_3, c8_4, Nat.reduceAdd, ii_succ, s1, j1, t1, a1, j2, t2, a2, j3, t3, a3, q1, g1, y1, g2, y2, g3, y3, k_s S, e1, R1.k, e2, ↓e_Mdl_thrown_0, ↓e_Mdl_thrown_1, ↓e_Mdl_thrown_4, K2, O2, l1, l2, l3, lg_cmp_self, not_true_eq_false]
theorem d_tune (I : LI L T h) (hT : 5 * T + 5 ≤ L) (hL : L ≤ 2560) (w5 w6 w7 w8 : Option MV) : ∃ h2 v5 v6 v7 v8, (∀ Q, WP Gm j_Law_law 342 [some (.inr (.inl (some 0))), some (.inr (.inl (some 1))), some (.inr (.inl (some 121))), some (.inr (.inl (some 125))), some (.inl (ii (5 * T))), w5, w6, w7, w8] [] h Q = WP Gm j_Law_law 1549 [some (.inr (.inl (some 0))), some (.inr (.inl (some 1))), some (.inr (.inl (some 121))), some (.inr (.inl (some 125))), some (.inl (ii (5 * T))), v5, v6, v7, v8] [] h2 Q) ∧ LI L (T + 1) h2 := by
  obtain ⟨n, B, τ, p, c, b9, x9, p9, m, α, Lv, hB, W, R, O, t125, ⟨s1, s2⟩, rn, rs, M, V, Cv, Rv⟩ := I
  have b2 := R.b2
  have cb := R.cb
  have S := Lv.1.1.1
  have hn8 := n8 S
  have hnx : 121 ≤ nx h := S.1.1
  have hr : okR cM sM h 1 6 = true := ok_big (by omega) (by omega)
  have Cv0 := Cv.t hn8 0
  have j1 : inL h 0 (ii (5 * T + 1)) = true := inL_n (by omega) (by rw [s2]; omega)
  have t1 : (ii (5 * T + 1)).toNatClampNeg = 5 * T + 1 := ii_nat (by omega)
  have a1 : ii (5 * T) + 1 = ii (5 * T + 1) := ii_add _ 1
  have j2 : inL h 0 (ii (5 * T + 2)) = true := inL_n (by omega) (by rw [s2]; omega)
  have t2 : (ii (5 * T + 2)).toNatClampNeg = 5 * T + 2 := ii_nat (by omega)
  have a2 : ii (5 * T) + 2 = ii (5 * T + 2) := ii_add _ 2
  have j3 : inL h 0 (ii (5 * T + 3)) = true := inL_n (by omega) (by rw [s2]; omega)
  have t3 : (ii (5 * T + 3)).toNatClampNeg = 5 * T + 3 := ii_nat (by omega)
  have a3 : ii (5 * T) + 3 = ii (5 * T + 3) := ii_add _ 3
  by_cases z0 : gI h 0 (5 * T + 3) = 0
  · obtain ⟨k, h1, e1, cc, k1, k2, Y⟩ := hv_tune Lv hB W hr O Cv0  (gI h 0 (5 * T + 1)) (gI h 0 (5 * T + 2)) (Or.inl rfl)
    have R1 := R.cls cc
    have V1 := V.cls R.F cc
    have M1 := M.up cc (by omega) Lv.1.1.1.1.1
    have A1 := Rv.cls R cc
    have A2 := A1.th R1 0
    have n4 := cc.2.2.2.2.2.2.1
    have n5 := cc.2.2.2.2.2.2.2
    have q1 := cc_k cc s1
    have q2 : ln h1 0 = L := by rw [(cc.2.2.2.2.1 0 (isK_spec s1).1).2, s2]
    have g1 : inL h1 0 (ii (5 * T + 1)) = true := inL_n (by omega) (by rw [q2]; omega)
    have y1 : gI h1 0 (5 * T + 1) = gI h 0 (5 * T + 1) := (cc.2.2.2.1 0 _ (Or.inl rfl) (isK_spec s1).1).1
    have g2 : inL h1 0 (ii (5 * T + 2)) = true := inL_n (by omega) (by rw [q2]; omega)
    have y2 : gI h1 0 (5 * T + 2) = gI h 0 (5 * T + 2) := (cc.2.2.2.1 0 _ (Or.inl rfl) (isK_spec s1).1).1
    have g3 : inL h1 0 (ii (5 * T + 3)) = true := inL_n (by omega) (by rw [q2]; omega)
    have y3 : gI h1 0 (5 * T + 3) = gI h 0 (5 * T + 3) := (cc.2.2.2.1 0 _ (Or.inl rfl) (isK_spec s1).1).1
    obtain ⟨v, h2, e2, z1, z2, mo⟩ := qx_mtune R1 A2  V1  (by omega) (by omega) (gI h 0 (5 * T + 1)) (gI h 0 (5 * T + 2)) (Or.inl rfl)
    have K2 : isK h2 121 kc_Mdl = true := mo_k mo.g
    have O2 : isK h2 125 kc_Out = true := mo_o mo.g (cc_k cc O)
    have keep : gL h2 125 0 = gL h1 125 0 := mo_l mo.g t125
    have link : (gI h2 121 0 = k ∧ ¬ k = 0) ∨ (gI h2 121 0 = k ∧ k = 0 ∧ gL h2 125 0 = v.toInt64) := by
      by_cases e : k = 0
      · exact Or.inr ⟨z1.trans k1.symm, e, by rw [keep, k2 e, z2 (k1.symm.trans e)]⟩
      · exact Or.inl ⟨z1.trans k1.symm, e⟩
    refine ⟨h2, some (.inl k), some (.inl v), w7, w8, fun Q => ?_, li_go cc Y R O t125 ⟨s1, s2⟩ rn rs mo M1⟩
    rcases link with ⟨l1, l2⟩ | ⟨l1, l2, l3⟩
    · simp only [↓e_Law_law_342, ↓e_Law_law_343, ↓e_Law_law_344, ↓e_Law_law_346, ↓e_Law_law_347, ↓e_Law_law_348, ↓e_Law_law_349, ↓e_Law_law_350, ↓e_Law_law_352, ↓e_Law_law_353, ↓e_Law_law_354, ↓e_Law_law_355, ↓e_Law_law_356, ↓e_Law_law_358, ↓e_Law_law_359, ↓e_Law_law_360, ↓e_Law_law_361, ↓e_Law_law_364, ↓e_Law_law_365, ↓e_Law_law_368, ↓e_Law_law_369, ↓e_Law_law_370, ↓e_Law_law_373, ↓e_Law_law_375, ↓e_Law_law_376, ↓e_Law_law_377, ↓e_Law_law_379, ↓e_Law_law_380, ↓e_Law_law_381, ↓e_Law_law_382, ↓e_Law_law_383, ↓e_Law_law_385, ↓e_Law_law_386, ↓e_Law_law_387, ↓e_Law_law_388, ↓e_Law_law_389, ↓e_Law_law_391, ↓e_Law_law_392, ↓e_Law_law_393, ↓e_Law_law_394, ↓e_Law_law_397, ↓e_Law_law_398, ↓e_Law_law_401, ↓e_Law_law_402, ↓e_Law_law_405, ↓e_Law_law_407, ↓e_Law_law_408, ↓e_Law_law_411, ↓e_Law_law_413, ↓e_Law_law_416, ↓e_Law_law_417, ↓e_Law_law_418, ↓e_Law_law_420, ↓e_Law_law_423, ↓e_Law_law_424, ↓e_Law_law_427, ↓e_Law_law_429, ↓e_Law_law_430, ↓e_Law_law_431, ↓e_Law_law_434, ↓e_Law_law_435, ↓e_Law_law_436, not_true_eq_false, not_false_eq_true, one0, true_or, or_true, eq_self, bI_z, bI_nz, bI_o, b_ft, bI_1, bI_0, ↓kC_l, ↓kC_r, Option.toList_some, Option.toList_none, List.cons_append, List.nil_append, s1_0, s1_1i, s1_1r, s1_1w, s1_1n, s1_s, s2_0, s2_1i, s2_1r, s2_1w, s2_1n, s2_s, gI_sI, gI_sR, gI_sL, gI_sD, gR_sI, gR_sR, gR_sL, gR_sD, gL_sI, gL_sR, gL_sL, gL_sD, gD_sI, gD_sR, gD_sL, gD_sD, isK_sI, isK_sR, isK_sL, isK_sD, inL_sI, inL_sR, inL_sL, inL_sD, nx_sI, nx_sR, nx_sL, nx_sD, kd_sI, kd_sR, kd_sL, kd_sD, ln_sI, ln_sR, ln_sL, ln_sD, ↓reduceIte, c8_n, c8_1, c8_2, c8_3, c8_4, Nat.reduceAdd, ii_succ, s1, j1, t1, a1, j2, t2, a2, j3, t3, a3, q1, g1, y1, g2, y2, g3, y3, z0, k_s S, e1, R1.k, e2, ↓e_Mdl_thrown_0, ↓e_Mdl_thrown_1, ↓e_Mdl_thrown_4, K2, O2, l1, l2, not_false_eq_true]
    · simp only [↓e_Law_law_342, ↓e_Law_law_343, ↓e_Law_law_344, ↓e_Law_law_346, ↓e_Law_law_347, ↓e_Law_law_348, ↓e_Law_law_349, ↓e_Law_law_350, ↓e_Law_law_352, ↓e_Law_law_353, ↓e_Law_law_354, ↓e_Law_law_355, ↓e_Law_law_356, ↓e_Law_law_358, ↓e_Law_law_359, ↓e_Law_law_360, ↓e_Law_law_361, ↓e_Law_law_364, ↓e_Law_law_365, ↓e_Law_law_368, ↓e_Law_law_369, ↓e_Law_law_370, ↓e_Law_law_373, ↓e_Law_law_375, ↓e_Law_law_376, ↓e_Law_law_377, ↓e_Law_law_379, ↓e_Law_law_380, ↓e_Law_law_381, ↓e_Law_law_382, ↓e_Law_law_383, ↓e_Law_law_385, ↓e_Law_law_386, ↓e_Law_law_387, ↓e_Law_law_388, ↓e_Law_law_389, ↓e_Law_law_391, ↓e_Law_law_392, ↓e_Law_law_393, ↓e_Law_law_394, ↓e_Law_law_397, ↓e_Law_law_398, ↓e_Law_law_401, ↓e_Law_law_402, ↓e_Law_law_405, ↓e_Law_law_407, ↓e_Law_law_408, ↓e_Law_law_411, ↓e_Law_law_413, ↓e_Law_law_416, ↓e_Law_law_417, ↓e_Law_law_418, ↓e_Law_law_420, ↓e_Law_law_423, ↓e_Law_law_424, ↓e_Law_law_427, ↓e_Law_law_429, ↓e_Law_law_430, ↓e_Law_law_431, ↓e_Law_law_434, ↓e_Law_law_435, ↓e_Law_law_436, not_true_eq_false, not_false_eq_true, one0, true_or, or_true, eq_self, bI_z, bI_nz, bI_o, b_ft, bI_1, bI_0, ↓kC_l, ↓kC_r, Option.toList_some, Option.toList_none, List.cons_append, List.nil_append, s1_0, s1_1i, s1_1r, s1_1w, s1_1n, s1_s, s2_0, s2_1i, s2_1r, s2_1w, s2_1n, s2_s, gI_sI, gI_sR, gI_sL, gI_sD, gR_sI, gR_sR, gR_sL, gR_sD, gL_sI, gL_sR, gL_sL, gL_sD, gD_sI, gD_sR, gD_sL, gD_sD, isK_sI, isK_sR, isK_sL, isK_sD, inL_sI, inL_sR, inL_sL, inL_sD, nx_sI, nx_sR, nx_sL, nx_sD, kd_sI, kd_sR, kd_sL, kd_sD, ln_sI, ln_sR, ln_sL, ln_sD, ↓reduceIte, c8_n, c8_1, c8_2, c8_3, c8_4, Nat.reduceAdd, ii_succ, s1, j1, t1, a1, j2, t2, a2, j3, t3, a3, q1, g1, y1, g2, y2, g3, y3, z0, k_s S, e1, R1.k, e2, ↓e_Mdl_thrown_0, ↓e_Mdl_thrown_1, ↓e_Mdl_thrown_4, K2, O2, l1, l2, l3, lg_cmp_self, not_true_eq_false]
  · obtain ⟨k, h1, e1, cc, k1, k2, Y⟩ := hv_tune Lv hB W hr O Cv0  (gI h 0 (5 * T + 1)) (gI h 0 (5 * T + 2)) (Or.inr rfl)
    have R1 := R.cls cc
    have V1 := V.cls R.F cc
    have M1 := M.up cc (by omega) Lv.1.1.1.1.1
    have A1 := Rv.cls R cc
    have A2 := A1.th R1 0
    have n4 := cc.2.2.2.2.2.2.1
    have n5 := cc.2.2.2.2.2.2.2
    have q1 := cc_k cc s1
    have q2 : ln h1 0 = L := by rw [(cc.2.2.2.2.1 0 (isK_spec s1).1).2, s2]
    have g1 : inL h1 0 (ii (5 * T + 1)) = true := inL_n (by omega) (by rw [q2]; omega)
    have y1 : gI h1 0 (5 * T + 1) = gI h 0 (5 * T + 1) := (cc.2.2.2.1 0 _ (Or.inl rfl) (isK_spec s1).1).1
    have g2 : inL h1 0 (ii (5 * T + 2)) = true := inL_n (by omega) (by rw [q2]; omega)
    have y2 : gI h1 0 (5 * T + 2) = gI h 0 (5 * T + 2) := (cc.2.2.2.1 0 _ (Or.inl rfl) (isK_spec s1).1).1
    have g3 : inL h1 0 (ii (5 * T + 3)) = true := inL_n (by omega) (by rw [q2]; omega)
    have y3 : gI h1 0 (5 * T + 3) = gI h 0 (5 * T + 3) := (cc.2.2.2.1 0 _ (Or.inl rfl) (isK_spec s1).1).1
    obtain ⟨v, h2, e2, z1, z2, mo⟩ := qx_mtune R1 A2  V1  (by omega) (by omega) (gI h 0 (5 * T + 1)) (gI h 0 (5 * T + 2)) (Or.inr rfl)
    have K2 : isK h2 121 kc_Mdl = true := mo_k mo.g
    have O2 : isK h2 125 kc_Out = true := mo_o mo.g (cc_k cc O)
    have keep : gL h2 125 0 = gL h1 125 0 := mo_l mo.g t125
    have link : (gI h2 121 0 = k ∧ ¬ k = 0) ∨ (gI h2 121 0 = k ∧ k = 0 ∧ gL h2 125 0 = v.toInt64) := by
      by_cases e : k = 0
      · exact Or.inr ⟨z1.trans k1.symm, e, by rw [keep, k2 e, z2 (k1.symm.trans e)]⟩
      · exact Or.inl ⟨z1.trans k1.symm, e⟩
    refine ⟨h2, some (.inl k), some (.inl v), w7, w8, fun Q => ?_, li_go cc Y R O t125 ⟨s1, s2⟩ rn rs mo M1⟩
    rcases link with ⟨l1, l2⟩ | ⟨l1, l2, l3⟩
    · simp only [↓e_Law_law_342, ↓e_Law_law_343, ↓e_Law_law_344, ↓e_Law_law_346, ↓e_Law_law_347, ↓e_Law_law_348, ↓e_Law_law_349, ↓e_Law_law_350, ↓e_Law_law_352, ↓e_Law_law_353, ↓e_Law_law_354, ↓e_Law_law_355, ↓e_Law_law_356, ↓e_Law_law_358, ↓e_Law_law_359, ↓e_Law_law_360, ↓e_Law_law_361, ↓e_Law_law_364, ↓e_Law_law_365, ↓e_Law_law_368, ↓e_Law_law_369, ↓e_Law_law_370, ↓e_Law_law_373, ↓e_Law_law_375, ↓e_Law_law_376, ↓e_Law_law_377, ↓e_Law_law_379, ↓e_Law_law_380, ↓e_Law_law_381, ↓e_Law_law_382, ↓e_Law_law_383, ↓e_Law_law_385, ↓e_Law_law_386, ↓e_Law_law_387, ↓e_Law_law_388, ↓e_Law_law_389, ↓e_Law_law_391, ↓e_Law_law_392, ↓e_Law_law_393, ↓e_Law_law_394, ↓e_Law_law_397, ↓e_Law_law_398, ↓e_Law_law_401, ↓e_Law_law_402, ↓e_Law_law_405, ↓e_Law_law_407, ↓e_Law_law_408, ↓e_Law_law_411, ↓e_Law_law_413, ↓e_Law_law_416, ↓e_Law_law_417, ↓e_Law_law_418, ↓e_Law_law_420, ↓e_Law_law_423, ↓e_Law_law_424, ↓e_Law_law_427, ↓e_Law_law_429, ↓e_Law_law_430, ↓e_Law_law_431, ↓e_Law_law_434, ↓e_Law_law_435, ↓e_Law_law_436, not_true_eq_false, not_false_eq_true, one0, true_or, or_true, eq_self, bI_z, bI_nz, bI_o, b_ft, bI_1, bI_0, ↓kC_l, ↓kC_r, Option.toList_some, Option.toList_none, List.cons_append, List.nil_append, s1_0, s1_1i, s1_1r, s1_1w, s1_1n, s1_s, s2_0, s2_1i, s2_1r, s2_1w, s2_1n, s2_s, gI_sI, gI_sR, gI_sL, gI_sD, gR_sI, gR_sR, gR_sL, gR_sD, gL_sI, gL_sR, gL_sL, gL_sD, gD_sI, gD_sR, gD_sL, gD_sD, isK_sI, isK_sR, isK_sL, isK_sD, inL_sI, inL_sR, inL_sL, inL_sD, nx_sI, nx_sR, nx_sL, nx_sD, kd_sI, kd_sR, kd_sL, kd_sD, ln_sI, ln_sR, ln_sL, ln_sD, ↓reduceIte, c8_n, c8_1, c8_2, c8_3, c8_4, Nat.reduceAdd, ii_succ, s1, j1, t1, a1, j2, t2, a2, j3, t3, a3, q1, g1, y1, g2, y2, g3, y3, z0, k_s S, e1, R1.k, e2, ↓e_Mdl_thrown_0, ↓e_Mdl_thrown_1, ↓e_Mdl_thrown_4, K2, O2, l1, l2, not_false_eq_true]
    · simp only [↓e_Law_law_342, ↓e_Law_law_343, ↓e_Law_law_344, ↓e_Law_law_346, ↓e_Law_law_347, ↓e_Law_law_348, ↓e_Law_law_349, ↓e_Law_law_350, ↓e_Law_law_352, ↓e_Law_law_353, ↓e_Law_law_354, ↓e_Law_law_355, ↓e_Law_law_356, ↓e_Law_law_358, ↓e_Law_law_359, ↓e_Law_law_360, ↓e_Law_law_361, ↓e_Law_law_364, ↓e_Law_law_365, ↓e_Law_law_368, ↓e_Law_law_369, ↓e_Law_law_370, ↓e_Law_law_373, ↓e_Law_law_375, ↓e_Law_law_376, ↓e_Law_law_377, ↓e_Law_law_379, ↓e_Law_law_380, ↓e_Law_law_381, ↓e_Law_law_382, ↓e_Law_law_383, ↓e_Law_law_385, ↓e_Law_law_386, ↓e_Law_law_387, ↓e_Law_law_388, ↓e_Law_law_389, ↓e_Law_law_391, ↓e_Law_law_392, ↓e_Law_law_393, ↓e_Law_law_394, ↓e_Law_law_397, ↓e_Law_law_398, ↓e_Law_law_401, ↓e_Law_law_402, ↓e_Law_law_405, ↓e_Law_law_407, ↓e_Law_law_408, ↓e_Law_law_411, ↓e_Law_law_413, ↓e_Law_law_416, ↓e_Law_law_417, ↓e_Law_law_418, ↓e_Law_law_420, ↓e_Law_law_423, ↓e_Law_law_424, ↓e_Law_law_427, ↓e_Law_law_429, ↓e_Law_law_430, ↓e_Law_law_431, ↓e_Law_law_434, ↓e_Law_law_435, ↓e_Law_law_436, not_true_eq_false, not_false_eq_true, one0, true_or, or_true, eq_self, bI_z, bI_nz, bI_o, b_ft, bI_1, bI_0, ↓kC_l, ↓kC_r, Option.toList_some, Option.toList_none, List.cons_append, List.nil_append, s1_0, s1_1i, s1_1r, s1_1w, s1_1n, s1_s, s2_0, s2_1i, s2_1r, s2_1w, s2_1n, s2_s, gI_sI, gI_sR, gI_sL, gI_sD, gR_sI, gR_sR, gR_sL, gR_sD, gL_sI, gL_sR, gL_sL, gL_sD, gD_sI, gD_sR, gD_sL, gD_sD, isK_sI, isK_sR, isK_sL, isK_sD, inL_sI, inL_sR, inL_sL, inL_sD, nx_sI, nx_sR, nx_sL, nx_sD, kd_sI, kd_sR, kd_sL, kd_sD, ln_sI, ln_sR, ln_sL, ln_sD, ↓reduceIte, c8_n, c8_1, c8_2, c8_3, c8_4, Nat.reduceAdd, ii_succ, s1, j1, t1, a1, j2, t2, a2, j3, t3, a3, q1, g1, y1, g2, y2, g3, y3, z0, k_s S, e1, R1.k, e2, ↓e_Mdl_thrown_0, ↓e_Mdl_thrown_1, ↓e_Mdl_thrown_4, K2, O2, l1, l2, l3, lg_cmp_self, not_true_eq_false]
theorem d_send (I : LI L T h) (hT : 5 * T + 5 ≤ L) (hL : L ≤ 2560) (w5 w6 w7 w8 : Option MV) : ∃ h2 v5 v6 v7 v8, (∀ Q, WP Gm j_Law_law 439 [some (.inr (.inl (some 0))), some (.inr (.inl (some 1))), some (.inr (.inl (some 121))), some (.inr (.inl (some 125))), some (.inl (ii (5 * T))), w5, w6, w7, w8] [] h Q = WP Gm j_Law_law 1549 [some (.inr (.inl (some 0))), some (.inr (.inl (some 1))), some (.inr (.inl (some 121))), some (.inr (.inl (some 125))), some (.inl (ii (5 * T))), v5, v6, v7, v8] [] h2 Q) ∧ LI L (T + 1) h2 := by
  obtain ⟨n, B, τ, p, c, b9, x9, p9, m, α, Lv, hB, W, R, O, t125, ⟨s1, s2⟩, rn, rs, M, V, Cv, Rv⟩ := I
  have b2 := R.b2
  have cb := R.cb
  have S := Lv.1.1.1
  have hn8 := n8 S
  have hnx : 121 ≤ nx h := S.1.1
  have hr : okR cM sM h 1 6 = true := ok_big (by omega) (by omega)
  have Cv0 := Cv.t hn8 0
  have j1 : inL h 0 (ii (5 * T + 1)) = true := inL_n (by omega) (by rw [s2]; omega)
  have t1 : (ii (5 * T + 1)).toNatClampNeg = 5 * T + 1 := ii_nat (by omega)
  have a1 : ii (5 * T) + 1 = ii (5 * T + 1) := ii_add _ 1
  have j2 : inL h 0 (ii (5 * T + 2)) = true := inL_n (by omega) (by rw [s2]; omega)
  have t2 : (ii (5 * T + 2)).toNatClampNeg = 5 * T + 2 := ii_nat (by omega)
  have a2 : ii (5 * T) + 2 = ii (5 * T + 2) := ii_add _ 2
  have j3 : inL h 0 (ii (5 * T + 3)) = true := inL_n (by omega) (by rw [s2]; omega)
  have t3 : (ii (5 * T + 3)).toNatClampNeg = 5 * T + 3 := ii_nat (by omega)
  have a3 : ii (5 * T) + 3 = ii (5 * T + 3) := ii_add _ 3
  obtain ⟨k, h1, e1, cc, k1, k2, Y⟩ := hv_send Lv hB (by omega) W hr O Cv0  (gI h 0 (5 * T + 1)) (gI h 0 (5 * T + 2)) (gI h 0 (5 * T + 3))
  have R1 := R.cls cc
  have V1 := V.cls R.F cc
  have M1 := M.up cc (by omega) Lv.1.1.1.1.1
  have A1 := Rv.cls R cc
  have A2 := A1.th R1 0
  have n4 := cc.2.2.2.2.2.2.1
  have n5 := cc.2.2.2.2.2.2.2
  have q1 := cc_k cc s1
  have q2 : ln h1 0 = L := by rw [(cc.2.2.2.2.1 0 (isK_spec s1).1).2, s2]
  have g1 : inL h1 0 (ii (5 * T + 1)) = true := inL_n (by omega) (by rw [q2]; omega)
  have y1 : gI h1 0 (5 * T + 1) = gI h 0 (5 * T + 1) := (cc.2.2.2.1 0 _ (Or.inl rfl) (isK_spec s1).1).1
  have g2 : inL h1 0 (ii (5 * T + 2)) = true := inL_n (by omega) (by rw [q2]; omega)
  have y2 : gI h1 0 (5 * T + 2) = gI h 0 (5 * T + 2) := (cc.2.2.2.1 0 _ (Or.inl rfl) (isK_spec s1).1).1
  have g3 : inL h1 0 (ii (5 * T + 3)) = true := inL_n (by omega) (by rw [q2]; omega)
  have y3 : gI h1 0 (5 * T + 3) = gI h 0 (5 * T + 3) := (cc.2.2.2.1 0 _ (Or.inl rfl) (isK_spec s1).1).1
  obtain ⟨v, h2, e2, z1, z2, mo⟩ := qx_msend R1 A2  V1  (by omega) (by omega) (gI h 0 (5 * T + 1)) (gI h 0 (5 * T + 2)) (gI h 0 (5 * T + 3))
  have K2 : isK h2 121 kc_Mdl = true := mo_k mo.g
  have O2 : isK h2 125 kc_Out = true := mo_o mo.g (cc_k cc O)
  have keep : gL h2 125 0 = gL h1 125 0 := mo_l mo.g t125
  have link : (gI h2 121 0 = k ∧ ¬ k = 0) ∨ (gI h2 121 0 = k ∧ k = 0 ∧ gL h2 125 0 = v.toInt64) := by
    by_cases e : k = 0
    · exact Or.inr ⟨z1.trans k1.symm, e, by rw [keep, k2 e, z2 (k1.symm.trans e)]⟩
    · exact Or.inl ⟨z1.trans k1.symm, e⟩
  refine ⟨h2, some (.inl k), some (.inl v), w7, w8, fun Q => ?_, li_go cc Y R O t125 ⟨s1, s2⟩ rn rs mo M1⟩
  rcases link with ⟨l1, l2⟩ | ⟨l1, l2, l3⟩
  · simp only [↓e_Law_law_439, ↓e_Law_law_440, ↓e_Law_law_441, ↓e_Law_law_443, ↓e_Law_law_444, ↓e_Law_law_445, ↓e_Law_law_446, ↓e_Law_law_447, ↓e_Law_law_449, ↓e_Law_law_450, ↓e_Law_law_451, ↓e_Law_law_452, ↓e_Law_law_453, ↓e_Law_law_455, ↓e_Law_law_456, ↓e_Law_law_457, ↓e_Law_law_458, ↓e_Law_law_459, ↓e_Law_law_462, ↓e_Law_law_464, ↓e_Law_law_465, ↓e_Law_law_466, ↓e_Law_law_468, ↓e_Law_law_469, ↓e_Law_law_470, ↓e_Law_law_471, ↓e_Law_law_472, ↓e_Law_law_474, ↓e_Law_law_475, ↓e_Law_law_476, ↓e_Law_law_477, ↓e_Law_law_478, ↓e_Law_law_480, ↓e_Law_law_481, ↓e_Law_law_482, ↓e_Law_law_483, ↓e_Law_law_486, ↓e_Law_law_488, ↓e_Law_law_489, ↓e_Law_law_492, ↓e_Law_law_494, ↓e_Law_law_497, ↓e_Law_law_498, ↓e_Law_law_499, ↓e_Law_law_501, ↓e_Law_law_504, ↓e_Law_law_505, ↓e_Law_law_508, ↓e_Law_law_510, ↓e_Law_law_511, ↓e_Law_law_512, ↓e_Law_law_515, ↓e_Law_law_516, ↓e_Law_law_517, not_true_eq_false, not_false_eq_true, one0, true_or, or_true, eq_self, bI_z, bI_nz, bI_o, b_ft, bI_1, bI_0, ↓kC_l, ↓kC_r, Option.toList_some, Option.toList_none, List.cons_append, List.nil_append, s1_0, s1_1i, s1_1r, s1_1w, s1_1n, s1_s, s2_0, s2_1i, s2_1r, s2_1w, s2_1n, s2_s, gI_sI, gI_sR, gI_sL, gI_sD, gR_sI, gR_sR, gR_sL, gR_sD, gL_sI, gL_sR, gL_sL, gL_sD, gD_sI, gD_sR, gD_sL, gD_sD, isK_sI, isK_sR, isK_sL, isK_sD, inL_sI, inL_sR, inL_sL, inL_sD, nx_sI, nx_sR, nx_sL, nx_sD, kd_sI, kd_sR, kd_sL, kd_sD, ln_sI, ln_sR, ln_sL, ln_sD, ↓reduceIte, c8_n, c8_1, c8_2, c8_3, c8_4, Nat.reduceAdd, ii_succ, s1, j1, t1, a1, j2, t2, a2, j3, t3, a3, q1, g1, y1, g2, y2, g3, y3, k_s S, e1, R1.k, e2, ↓e_Mdl_thrown_0, ↓e_Mdl_thrown_1, ↓e_Mdl_thrown_4, K2, O2, l1, l2, not_false_eq_true]
  · simp only [↓e_Law_law_439, ↓e_Law_law_440, ↓e_Law_law_441, ↓e_Law_law_443, ↓e_Law_law_444, ↓e_Law_law_445, ↓e_Law_law_446, ↓e_Law_law_447, ↓e_Law_law_449, ↓e_Law_law_450, ↓e_Law_law_451, ↓e_Law_law_452, ↓e_Law_law_453, ↓e_Law_law_455, ↓e_Law_law_456, ↓e_Law_law_457, ↓e_Law_law_458, ↓e_Law_law_459, ↓e_Law_law_462, ↓e_Law_law_464, ↓e_Law_law_465, ↓e_Law_law_466, ↓e_Law_law_468, ↓e_Law_law_469, ↓e_Law_law_470, ↓e_Law_law_471, ↓e_Law_law_472, ↓e_Law_law_474, ↓e_Law_law_475, ↓e_Law_law_476, ↓e_Law_law_477, ↓e_Law_law_478, ↓e_Law_law_480, ↓e_Law_law_481, ↓e_Law_law_482, ↓e_Law_law_483, ↓e_Law_law_486, ↓e_Law_law_488, ↓e_Law_law_489, ↓e_Law_law_492, ↓e_Law_law_494, ↓e_Law_law_497, ↓e_Law_law_498, ↓e_Law_law_499, ↓e_Law_law_501, ↓e_Law_law_504, ↓e_Law_law_505, ↓e_Law_law_508, ↓e_Law_law_510, ↓e_Law_law_511, ↓e_Law_law_512, ↓e_Law_law_515, ↓e_Law_law_516, ↓e_Law_law_517, not_true_eq_false, not_false_eq_true, one0, true_or, or_true, eq_self, bI_z, bI_nz, bI_o, b_ft, bI_1, bI_0, ↓kC_l, ↓kC_r, Option.toList_some, Option.toList_none, List.cons_append, List.nil_append, s1_0, s1_1i, s1_1r, s1_1w, s1_1n, s1_s, s2_0, s2_1i, s2_1r, s2_1w, s2_1n, s2_s, gI_sI, gI_sR, gI_sL, gI_sD, gR_sI, gR_sR, gR_sL, gR_sD, gL_sI, gL_sR, gL_sL, gL_sD, gD_sI, gD_sR, gD_sL, gD_sD, isK_sI, isK_sR, isK_sL, isK_sD, inL_sI, inL_sR, inL_sL, inL_sD, nx_sI, nx_sR, nx_sL, nx_sD, kd_sI, kd_sR, kd_sL, kd_sD, ln_sI, ln_sR, ln_sL, ln_sD, ↓reduceIte, c8_n, c8_1, c8_2, c8_3, c8_4, Nat.reduceAdd, ii_succ, s1, j1, t1, a1, j2, t2, a2, j3, t3, a3, q1, g1, y1, g2, y2, g3, y3, k_s S, e1, R1.k, e2, ↓e_Mdl_thrown_0, ↓e_Mdl_thrown_1, ↓e_Mdl_thrown_4, K2, O2, l1, l2, l3, lg_cmp_self, not_true_eq_false]
theorem d_pass (I : LI L T h) (hT : 5 * T + 5 ≤ L) (hL : L ≤ 2560) (w5 w6 w7 w8 : Option MV) : ∃ h2 v5 v6 v7 v8, (∀ Q, WP Gm j_Law_law 520 [some (.inr (.inl (some 0))), some (.inr (.inl (some 1))), some (.inr (.inl (some 121))), some (.inr (.inl (some 125))), some (.inl (ii (5 * T))), w5, w6, w7, w8] [] h Q = WP Gm j_Law_law 1549 [some (.inr (.inl (some 0))), some (.inr (.inl (some 1))), some (.inr (.inl (some 121))), some (.inr (.inl (some 125))), some (.inl (ii (5 * T))), v5, v6, v7, v8] [] h2 Q) ∧ LI L (T + 1) h2 := by
  obtain ⟨n, B, τ, p, c, b9, x9, p9, m, α, Lv, hB, W, R, O, t125, ⟨s1, s2⟩, rn, rs, M, V, Cv, Rv⟩ := I
  have b2 := R.b2
  have cb := R.cb
  have S := Lv.1.1.1
  have hn8 := n8 S
  have hnx : 121 ≤ nx h := S.1.1
  have hr : okR cM sM h 1 6 = true := ok_big (by omega) (by omega)
  have Cv0 := Cv.t hn8 0
  have W0 := ai_vq Lv.1.1 Cv0
  have R0 : RM τ n p (8 * B) c B (gI h 1 4) (sI h 121 0 0) := R.th
  have W9 := vs_all R0 (Rv.th R 0) W0 (by show nx h + _ + _ ≤ _; omega) (by show sc h + _ + _ ≤ _; omega)
  have j1 : inL h 0 (ii (5 * T + 1)) = true := inL_n (by omega) (by rw [s2]; omega)
  have t1 : (ii (5 * T + 1)).toNatClampNeg = 5 * T + 1 := ii_nat (by omega)
  have a1 : ii (5 * T) + 1 = ii (5 * T + 1) := ii_add _ 1
  obtain ⟨k, h1, e1, cc, k1, k2, Y⟩ := hv_pass Lv hB W hr O Cv0 W9 (gI h 0 (5 * T + 1))
  have R1 := R.cls cc
  have V1 := V.cls R.F cc
  have M1 := M.up cc (by omega) Lv.1.1.1.1.1
  have A1 := Rv.cls R cc
  have A2 := A1.th R1 0
  have n4 := cc.2.2.2.2.2.2.1
  have n5 := cc.2.2.2.2.2.2.2
  have q1 := cc_k cc s1
  have q2 : ln h1 0 = L := by rw [(cc.2.2.2.2.1 0 (isK_spec s1).1).2, s2]
  have g1 : inL h1 0 (ii (5 * T + 1)) = true := inL_n (by omega) (by rw [q2]; omega)
  have y1 : gI h1 0 (5 * T + 1) = gI h 0 (5 * T + 1) := (cc.2.2.2.1 0 _ (Or.inl rfl) (isK_spec s1).1).1
  obtain ⟨v, h2, e2, z1, z2, mo⟩ := qx_mpass R1 A2 W0 V1  (by omega) (by omega) (gI h 0 (5 * T + 1))
  have K2 : isK h2 121 kc_Mdl = true := mo_k mo.g
  have O2 : isK h2 125 kc_Out = true := mo_o mo.g (cc_k cc O)
  have keep : gL h2 125 0 = gL h1 125 0 := mo_l mo.g t125
  have link : (gI h2 121 0 = k ∧ ¬ k = 0) ∨ (gI h2 121 0 = k ∧ k = 0 ∧ gL h2 125 0 = v.toInt64) := by
    by_cases e : k = 0
    · exact Or.inr ⟨z1.trans k1.symm, e, by rw [keep, k2 e, z2 (k1.symm.trans e)]⟩
    · exact Or.inl ⟨z1.trans k1.symm, e⟩
  refine ⟨h2, some (.inl k), some (.inl v), w7, w8, fun Q => ?_, li_go cc Y R O t125 ⟨s1, s2⟩ rn rs mo M1⟩
  rcases link with ⟨l1, l2⟩ | ⟨l1, l2, l3⟩
  · simp only [↓e_Law_law_520, ↓e_Law_law_521, ↓e_Law_law_522, ↓e_Law_law_524, ↓e_Law_law_525, ↓e_Law_law_526, ↓e_Law_law_527, ↓e_Law_law_528, ↓e_Law_law_531, ↓e_Law_law_533, ↓e_Law_law_534, ↓e_Law_law_535, ↓e_Law_law_537, ↓e_Law_law_538, ↓e_Law_law_539, ↓e_Law_law_540, ↓e_Law_law_543, ↓e_Law_law_545, ↓e_Law_law_546, ↓e_Law_law_549, ↓e_Law_law_551, ↓e_Law_law_554, ↓e_Law_law_555, ↓e_Law_law_556, ↓e_Law_law_558, ↓e_Law_law_561, ↓e_Law_law_562, ↓e_Law_law_565, ↓e_Law_law_567, ↓e_Law_law_568, ↓e_Law_law_569, ↓e_Law_law_572, ↓e_Law_law_573, ↓e_Law_law_574, not_true_eq_false, not_false_eq_true, one0, true_or, or_true, eq_self, bI_z, bI_nz, bI_o, b_ft, bI_1, bI_0, ↓kC_l, ↓kC_r, Option.toList_some, Option.toList_none, List.cons_append, List.nil_append, s1_0, s1_1i, s1_1r, s1_1w, s1_1n, s1_s, s2_0, s2_1i, s2_1r, s2_1w, s2_1n, s2_s, gI_sI, gI_sR, gI_sL, gI_sD, gR_sI, gR_sR, gR_sL, gR_sD, gL_sI, gL_sR, gL_sL, gL_sD, gD_sI, gD_sR, gD_sL, gD_sD, isK_sI, isK_sR, isK_sL, isK_sD, inL_sI, inL_sR, inL_sL, inL_sD, nx_sI, nx_sR, nx_sL, nx_sD, kd_sI, kd_sR, kd_sL, kd_sD, ln_sI, ln_sR, ln_sL, ln_sD, ↓reduceIte, c8_n, c8_1, c8_2, c8_3, c8_4, Nat.reduceAdd, ii_succ, s1, j1, t1, a1, q1, g1, y1, k_s S, e1, R1.k, e2, ↓e_Mdl_thrown_0, ↓e_Mdl_thrown_1, ↓e_Mdl_thrown_4, K2, O2, l1, l2, not_false_eq_true]
  · simp only [↓e_Law_law_520, ↓e_Law_law_521, ↓e_Law_law_522, ↓e_Law_law_524, ↓e_Law_law_525, ↓e_Law_law_526, ↓e_Law_law_527, ↓e_Law_law_528, ↓e_Law_law_531, ↓e_Law_law_533, ↓e_Law_law_534, ↓e_Law_law_535, ↓e_Law_law_537, ↓e_Law_law_538, ↓e_Law_law_539, ↓e_Law_law_540, ↓e_Law_law_543, ↓e_Law_law_545, ↓e_Law_law_546, ↓e_Law_law_549, ↓e_Law_law_551, ↓e_Law_law_554, ↓e_Law_law_555, ↓e_Law_law_556, ↓e_Law_law_558, ↓e_Law_law_561, ↓e_Law_law_562, ↓e_Law_law_565, ↓e_Law_law_567, ↓e_Law_law_568, ↓e_Law_law_569, ↓e_Law_law_572, ↓e_Law_law_573, ↓e_Law_law_574, not_true_eq_false, not_false_eq_true, one0, true_or, or_true, eq_self, bI_z, bI_nz, bI_o, b_ft, bI_1, bI_0, ↓kC_l, ↓kC_r, Option.toList_some, Option.toList_none, List.cons_append, List.nil_append, s1_0, s1_1i, s1_1r, s1_1w, s1_1n, s1_s, s2_0, s2_1i, s2_1r, s2_1w, s2_1n, s2_s, gI_sI, gI_sR, gI_sL, gI_sD, gR_sI, gR_sR, gR_sL, gR_sD, gL_sI, gL_sR, gL_sL, gL_sD, gD_sI, gD_sR, gD_sL, gD_sD, isK_sI, isK_sR, isK_sL, isK_sD, inL_sI, inL_sR, inL_sL, inL_sD, nx_sI, nx_sR, nx_sL, nx_sD, kd_sI, kd_sR, kd_sL, kd_sD, ln_sI, ln_sR, ln_sL, ln_sD, ↓reduceIte, c8_n, c8_1, c8_2, c8_3, c8_4, Nat.reduceAdd, ii_succ, s1, j1, t1, a1, q1, g1, y1, k_s S, e1, R1.k, e2, ↓e_Mdl_thrown_0, ↓e_Mdl_thrown_1, ↓e_Mdl_thrown_4, K2, O2, l1, l2, l3, lg_cmp_self, not_true_eq_false]
theorem d_exchange (I : LI L T h) (hT : 5 * T + 5 ≤ L) (hL : L ≤ 2560) (w5 w6 w7 w8 : Option MV) : ∃ h2 v5 v6 v7 v8, (∀ Q, WP Gm j_Law_law 577 [some (.inr (.inl (some 0))), some (.inr (.inl (some 1))), some (.inr (.inl (some 121))), some (.inr (.inl (some 125))), some (.inl (ii (5 * T))), w5, w6, w7, w8] [] h Q = WP Gm j_Law_law 1549 [some (.inr (.inl (some 0))), some (.inr (.inl (some 1))), some (.inr (.inl (some 121))), some (.inr (.inl (some 125))), some (.inl (ii (5 * T))), v5, v6, v7, v8] [] h2 Q) ∧ LI L (T + 1) h2 := by
  obtain ⟨n, B, τ, p, c, b9, x9, p9, m, α, Lv, hB, W, R, O, t125, ⟨s1, s2⟩, rn, rs, M, V, Cv, Rv⟩ := I
  have b2 := R.b2
  have cb := R.cb
  have S := Lv.1.1.1
  have hn8 := n8 S
  have hnx : 121 ≤ nx h := S.1.1
  have hr : okR cM sM h 1 6 = true := ok_big (by omega) (by omega)
  have Cv0 := Cv.t hn8 0
  have j1 : inL h 0 (ii (5 * T + 1)) = true := inL_n (by omega) (by rw [s2]; omega)
  have t1 : (ii (5 * T + 1)).toNatClampNeg = 5 * T + 1 := ii_nat (by omega)
  have a1 : ii (5 * T) + 1 = ii (5 * T + 1) := ii_add _ 1
  obtain ⟨k, h1, e1, cc, k1, k2, Y⟩ := hv_exchange Lv hB W hr O Cv0  (gI h 0 (5 * T + 1))
  have R1 := R.cls cc
  have V1 := V.cls R.F cc
  have M1 := M.up cc (by omega) Lv.1.1.1.1.1
  have A1 := Rv.cls R cc
  have A2 := A1.th R1 0
  have n4 := cc.2.2.2.2.2.2.1
  have n5 := cc.2.2.2.2.2.2.2
  have q1 := cc_k cc s1
  have q2 : ln h1 0 = L := by rw [(cc.2.2.2.2.1 0 (isK_spec s1).1).2, s2]
  have g1 : inL h1 0 (ii (5 * T + 1)) = true := inL_n (by omega) (by rw [q2]; omega)
  have y1 : gI h1 0 (5 * T + 1) = gI h 0 (5 * T + 1) := (cc.2.2.2.1 0 _ (Or.inl rfl) (isK_spec s1).1).1
  obtain ⟨v, h2, e2, z1, z2, mo⟩ := qx_mexchange R1 A2  V1  (by omega) (by omega) (gI h 0 (5 * T + 1))
  have K2 : isK h2 121 kc_Mdl = true := mo_k mo.g
  have O2 : isK h2 125 kc_Out = true := mo_o mo.g (cc_k cc O)
  have keep : gL h2 125 0 = gL h1 125 0 := mo_l mo.g t125
  have link : (gI h2 121 0 = k ∧ ¬ k = 0) ∨ (gI h2 121 0 = k ∧ k = 0 ∧ gL h2 125 0 = v.toInt64) := by
    by_cases e : k = 0
    · exact Or.inr ⟨z1.trans k1.symm, e, by rw [keep, k2 e, z2 (k1.symm.trans e)]⟩
    · exact Or.inl ⟨z1.trans k1.symm, e⟩
  refine ⟨h2, some (.inl k), some (.inl v), w7, w8, fun Q => ?_, li_go cc Y R O t125 ⟨s1, s2⟩ rn rs mo M1⟩
  rcases link with ⟨l1, l2⟩ | ⟨l1, l2, l3⟩
  · simp only [↓e_Law_law_577, ↓e_Law_law_578, ↓e_Law_law_579, ↓e_Law_law_581, ↓e_Law_law_582, ↓e_Law_law_583, ↓e_Law_law_584, ↓e_Law_law_585, ↓e_Law_law_588, ↓e_Law_law_590, ↓e_Law_law_591, ↓e_Law_law_592, ↓e_Law_law_594, ↓e_Law_law_595, ↓e_Law_law_596, ↓e_Law_law_597, ↓e_Law_law_600, ↓e_Law_law_602, ↓e_Law_law_603, ↓e_Law_law_606, ↓e_Law_law_608, ↓e_Law_law_611, ↓e_Law_law_612, ↓e_Law_law_613, ↓e_Law_law_615, ↓e_Law_law_618, ↓e_Law_law_619, ↓e_Law_law_622, ↓e_Law_law_624, ↓e_Law_law_625, ↓e_Law_law_626, ↓e_Law_law_629, ↓e_Law_law_630, ↓e_Law_law_631, not_true_eq_false, not_false_eq_true, one0, true_or, or_true, eq_self, bI_z, bI_nz, bI_o, b_ft, bI_1, bI_0, ↓kC_l, ↓kC_r, Option.toList_some, Option.toList_none, List.cons_append, List.nil_append, s1_0, s1_1i, s1_1r, s1_1w, s1_1n, s1_s, s2_0, s2_1i, s2_1r, s2_1w, s2_1n, s2_s, gI_sI, gI_sR, gI_sL, gI_sD, gR_sI, gR_sR, gR_sL, gR_sD, gL_sI, gL_sR, gL_sL, gL_sD, gD_sI, gD_sR, gD_sL, gD_sD, isK_sI, isK_sR, isK_sL, isK_sD, inL_sI, inL_sR, inL_sL, inL_sD, nx_sI, nx_sR, nx_sL, nx_sD, kd_sI, kd_sR, kd_sL, kd_sD, ln_sI, ln_sR, ln_sL, ln_sD, ↓reduceIte, c8_n, c8_1, c8_2, c8_3, c8_4, Nat.reduceAdd, ii_succ, s1, j1, t1, a1, q1, g1, y1, k_s S, e1, R1.k, e2, ↓e_Mdl_thrown_0, ↓e_Mdl_thrown_1, ↓e_Mdl_thrown_4, K2, O2, l1, l2, not_false_eq_true]
  · simp only [↓e_Law_law_577, ↓e_Law_law_578, ↓e_Law_law_579, ↓e_Law_law_581, ↓e_Law_law_582, ↓e_Law_law_583, ↓e_Law_law_584, ↓e_Law_law_585, ↓e_Law_law_588, ↓e_Law_law_590, ↓e_Law_law_591, ↓e_Law_law_592, ↓e_Law_law_594, ↓e_Law_law_595, ↓e_Law_law_596, ↓e_Law_law_597, ↓e_Law_law_600, ↓e_Law_law_602, ↓e_Law_law_603, ↓e_Law_law_606, ↓e_Law_law_608, ↓e_Law_law_611, ↓e_Law_law_612, ↓e_Law_law_613, ↓e_Law_law_615, ↓e_Law_law_618, ↓e_Law_law_619, ↓e_Law_law_622, ↓e_Law_law_624, ↓e_Law_law_625, ↓e_Law_law_626, ↓e_Law_law_629, ↓e_Law_law_630, ↓e_Law_law_631, not_true_eq_false, not_false_eq_true, one0, true_or, or_true, eq_self, bI_z, bI_nz, bI_o, b_ft, bI_1, bI_0, ↓kC_l, ↓kC_r, Option.toList_some, Option.toList_none, List.cons_append, List.nil_append, s1_0, s1_1i, s1_1r, s1_1w, s1_1n, s1_s, s2_0, s2_1i, s2_1r, s2_1w, s2_1n, s2_s, gI_sI, gI_sR, gI_sL, gI_sD, gR_sI, gR_sR, gR_sL, gR_sD, gL_sI, gL_sR, gL_sL, gL_sD, gD_sI, gD_sR, gD_sL, gD_sD, isK_sI, isK_sR, isK_sL, isK_sD, inL_sI, inL_sR, inL_sL, inL_sD, nx_sI, nx_sR, nx_sL, nx_sD, kd_sI, kd_sR, kd_sL, kd_sD, ln_sI, ln_sR, ln_sL, ln_sD, ↓reduceIte, c8_n, c8_1, c8_2, c8_3, c8_4, Nat.reduceAdd, ii_succ, s1, j1, t1, a1, q1, g1, y1, k_s S, e1, R1.k, e2, ↓e_Mdl_thrown_0, ↓e_Mdl_thrown_1, ↓e_Mdl_thrown_4, K2, O2, l1, l2, l3, lg_cmp_self, not_true_eq_false]
theorem d_bid (I : LI L T h) (hT : 5 * T + 5 ≤ L) (hL : L ≤ 2560) (w5 w6 w7 w8 : Option MV) : ∃ h2 v5 v6 v7 v8, (∀ Q, WP Gm j_Law_law 634 [some (.inr (.inl (some 0))), some (.inr (.inl (some 1))), some (.inr (.inl (some 121))), some (.inr (.inl (some 125))), some (.inl (ii (5 * T))), w5, w6, w7, w8] [] h Q = WP Gm j_Law_law 1549 [some (.inr (.inl (some 0))), some (.inr (.inl (some 1))), some (.inr (.inl (some 121))), some (.inr (.inl (some 125))), some (.inl (ii (5 * T))), v5, v6, v7, v8] [] h2 Q) ∧ LI L (T + 1) h2 := by
  obtain ⟨n, B, τ, p, c, b9, x9, p9, m, α, Lv, hB, W, R, O, t125, ⟨s1, s2⟩, rn, rs, M, V, Cv, Rv⟩ := I
  have b2 := R.b2
  have cb := R.cb
  have S := Lv.1.1.1
  have hn8 := n8 S
  have hnx : 121 ≤ nx h := S.1.1
  have hr : okR cM sM h 1 6 = true := ok_big (by omega) (by omega)
  have j1 : inL h 0 (ii (5 * T + 1)) = true := inL_n (by omega) (by rw [s2]; omega)
  have t1 : (ii (5 * T + 1)).toNatClampNeg = 5 * T + 1 := ii_nat (by omega)
  have a1 : ii (5 * T) + 1 = ii (5 * T + 1) := ii_add _ 1
  have j2 : inL h 0 (ii (5 * T + 2)) = true := inL_n (by omega) (by rw [s2]; omega)
  have t2 : (ii (5 * T + 2)).toNatClampNeg = 5 * T + 2 := ii_nat (by omega)
  have a2 : ii (5 * T) + 2 = ii (5 * T + 2) := ii_add _ 2
  have j3 : inL h 0 (ii (5 * T + 3)) = true := inL_n (by omega) (by rw [s2]; omega)
  have t3 : (ii (5 * T + 3)).toNatClampNeg = 5 * T + 3 := ii_nat (by omega)
  have a3 : ii (5 * T) + 3 = ii (5 * T + 3) := ii_add _ 3
  obtain ⟨k, h1, e1, cc, Y0, sp⟩ := hk_bid Lv hB W hr O M (gI h 0 (5 * T + 1)) (gI h 0 (5 * T + 2)) (gI h 0 (5 * T + 3))
  have Y := Cv.ka hn8 Y0
  have R1 := R.cls cc
  have V1 := V.cls R.F cc
  have A1 := Rv.cls R cc
  have n4 := cc.2.2.2.2.2.2.1
  have n5 := cc.2.2.2.2.2.2.2
  have q1 := cc_k cc s1
  have q2 : ln h1 0 = L := by rw [(cc.2.2.2.2.1 0 (isK_spec s1).1).2, s2]
  have g1 : inL h1 0 (ii (5 * T + 1)) = true := inL_n (by omega) (by rw [q2]; omega)
  have y1 : gI h1 0 (5 * T + 1) = gI h 0 (5 * T + 1) := (cc.2.2.2.1 0 _ (Or.inl rfl) (isK_spec s1).1).1
  have g2 : inL h1 0 (ii (5 * T + 2)) = true := inL_n (by omega) (by rw [q2]; omega)
  have y2 : gI h1 0 (5 * T + 2) = gI h 0 (5 * T + 2) := (cc.2.2.2.1 0 _ (Or.inl rfl) (isK_spec s1).1).1
  have g3 : inL h1 0 (ii (5 * T + 3)) = true := inL_n (by omega) (by rw [q2]; omega)
  have y3 : gI h1 0 (5 * T + 3) = gI h 0 (5 * T + 3) := (cc.2.2.2.1 0 _ (Or.inl rfl) (isK_spec s1).1).1
  obtain ⟨v, h2, e2, sq⟩ := qa_mbid R1 V1 A1 (by omega) (by omega) (gI h 0 (5 * T + 1)) (gI h 0 (5 * T + 2)) (gI h 0 (5 * T + 3))
  have fin : ((gI h2 121 0 = k ∧ ¬ k = 0) ∨ (gI h2 121 0 = k ∧ k = 0 ∧ gL h2 125 0 = v.toInt64)) ∧ isK h2 121 kc_Mdl = true ∧ isK h2 125 kc_Out = true ∧ LI L (T + 1) h2 := by
    rcases sp with ⟨a1, a2, a3⟩ | ⟨a1, a2, a3, a4⟩ | ⟨a1, a2, a3, a4, a5⟩
    · rcases sq with ⟨d1, d2, d3⟩ | ⟨d1, -⟩ | ⟨d1, -⟩
      · exact ⟨Or.inl ⟨d2.trans a2.symm, by rw [a2]; decide⟩, mo_k d3.g, mo_o d3.g (cc_k cc O), li_go cc Y R O t125 ⟨s1, s2⟩ rn rs d3 a3⟩
      · rw [a1] at d1; cases d1
      · rw [a1] at d1; cases d1
    · rcases sq with ⟨d1, -⟩ | ⟨d1, d2, d3, d4⟩ | ⟨d1, d2, -⟩
      · rw [a1] at d1; cases d1
      · exact ⟨Or.inl ⟨d3.trans a3.symm, by rw [a3]; decide⟩, mo_k d4.g, mo_o d4.g (cc_k cc O), li_go cc Y R O t125 ⟨s1, s2⟩ rn rs d4 a4⟩
      · omega
    · rcases sq with ⟨d1, -⟩ | ⟨d1, d2, -⟩ | ⟨d1, d2, d3, d4, d5⟩
      · rw [a1] at d1; cases d1
      · omega
      · obtain ⟨b, w, q, ex, ey, ez, hb, hw1, hw2, hq1, hq2⟩ := bid_nums a1
        have he : ∀ k, k < m → (fun k => if k = m then b else b9 k) k = b9 k ∧ (fun k => if k = m then w else x9 k) k = x9 k ∧ (fun k => if k = m then q else p9 k) k = p9 k := fun k hk => ⟨if_neg (by omega), if_neg (by omega), if_neg (by omega)⟩
        have ho : okB (fun k => if k = m then b else b9 k) (fun k => if k = m then w else x9 k) (fun k => if k = m then q else p9 k) m := by
          unfold okB
          simp only [eq_self, ↓reduceIte]
          omega
        have M2 := a5 _ _ _ he (by rw [if_pos rfl]; exact ex) (by rw [if_pos rfl]; exact ey) (by rw [if_pos rfl]; exact ez) ho
        have mo := d5 _ _ _ he (by rw [if_pos rfl]; exact ex) (by rw [if_pos rfl]; exact ey) (by rw [if_pos rfl]; exact ez) ho
        exact ⟨Or.inr ⟨d3.trans a3.symm, a3, by rw [mo_l mo.g t125, a4, d4]⟩, mo_k mo.g, mo_o mo.g (cc_k cc O), li_go cc Y R O t125 ⟨s1, s2⟩ rn rs mo M2⟩
  obtain ⟨link, K2, O2, I2⟩ := fin
  refine ⟨h2, some (.inl k), some (.inl v), w7, w8, fun Q => ?_, I2⟩
  rcases link with ⟨l1, l2⟩ | ⟨l1, l2, l3⟩
  · simp only [↓e_Law_law_634, ↓e_Law_law_635, ↓e_Law_law_636, ↓e_Law_law_638, ↓e_Law_law_639, ↓e_Law_law_640, ↓e_Law_law_641, ↓e_Law_law_642, ↓e_Law_law_644, ↓e_Law_law_645, ↓e_Law_law_646, ↓e_Law_law_647, ↓e_Law_law_648, ↓e_Law_law_650, ↓e_Law_law_651, ↓e_Law_law_652, ↓e_Law_law_653, ↓e_Law_law_654, ↓e_Law_law_657, ↓e_Law_law_659, ↓e_Law_law_660, ↓e_Law_law_661, ↓e_Law_law_663, ↓e_Law_law_664, ↓e_Law_law_665, ↓e_Law_law_666, ↓e_Law_law_667, ↓e_Law_law_669, ↓e_Law_law_670, ↓e_Law_law_671, ↓e_Law_law_672, ↓e_Law_law_673, ↓e_Law_law_675, ↓e_Law_law_676, ↓e_Law_law_677, ↓e_Law_law_678, ↓e_Law_law_681, ↓e_Law_law_683, ↓e_Law_law_684, ↓e_Law_law_687, ↓e_Law_law_689, ↓e_Law_law_692, ↓e_Law_law_693, ↓e_Law_law_694, ↓e_Law_law_696, ↓e_Law_law_699, ↓e_Law_law_700, ↓e_Law_law_703, ↓e_Law_law_705, ↓e_Law_law_706, ↓e_Law_law_707, ↓e_Law_law_710, ↓e_Law_law_711, ↓e_Law_law_712, not_true_eq_false, not_false_eq_true, one0, true_or, or_true, eq_self, bI_z, bI_nz, bI_o, b_ft, bI_1, bI_0, ↓kC_l, ↓kC_r, Option.toList_some, Option.toList_none, List.cons_append, List.nil_append, s1_0, s1_1i, s1_1r, s1_1w, s1_1n, s1_s, s2_0, s2_1i, s2_1r, s2_1w, s2_1n, s2_s, gI_sI, gI_sR, gI_sL, gI_sD, gR_sI, gR_sR, gR_sL, gR_sD, gL_sI, gL_sR, gL_sL, gL_sD, gD_sI, gD_sR, gD_sL, gD_sD, isK_sI, isK_sR, isK_sL, isK_sD, inL_sI, inL_sR, inL_sL, inL_sD, nx_sI, nx_sR, nx_sL, nx_sD, kd_sI, kd_sR, kd_sL, kd_sD, ln_sI, ln_sR, ln_sL, ln_sD, ↓reduceIte, c8_n, c8_1, c8_2, c8_3, c8_4, Nat.reduceAdd, ii_succ, s1, j1, t1, a1, j2, t2, a2, j3, t3, a3, q1, g1, y1, g2, y2, g3, y3, k_s S, e1, R1.k, e2, ↓e_Mdl_thrown_0, ↓e_Mdl_thrown_1, ↓e_Mdl_thrown_4, K2, O2, l1, l2, not_false_eq_true]
  · simp only [↓e_Law_law_634, ↓e_Law_law_635, ↓e_Law_law_636, ↓e_Law_law_638, ↓e_Law_law_639, ↓e_Law_law_640, ↓e_Law_law_641, ↓e_Law_law_642, ↓e_Law_law_644, ↓e_Law_law_645, ↓e_Law_law_646, ↓e_Law_law_647, ↓e_Law_law_648, ↓e_Law_law_650, ↓e_Law_law_651, ↓e_Law_law_652, ↓e_Law_law_653, ↓e_Law_law_654, ↓e_Law_law_657, ↓e_Law_law_659, ↓e_Law_law_660, ↓e_Law_law_661, ↓e_Law_law_663, ↓e_Law_law_664, ↓e_Law_law_665, ↓e_Law_law_666, ↓e_Law_law_667, ↓e_Law_law_669, ↓e_Law_law_670, ↓e_Law_law_671, ↓e_Law_law_672, ↓e_Law_law_673, ↓e_Law_law_675, ↓e_Law_law_676, ↓e_Law_law_677, ↓e_Law_law_678, ↓e_Law_law_681, ↓e_Law_law_683, ↓e_Law_law_684, ↓e_Law_law_687, ↓e_Law_law_689, ↓e_Law_law_692, ↓e_Law_law_693, ↓e_Law_law_694, ↓e_Law_law_696, ↓e_Law_law_699, ↓e_Law_law_700, ↓e_Law_law_703, ↓e_Law_law_705, ↓e_Law_law_706, ↓e_Law_law_707, ↓e_Law_law_710, ↓e_Law_law_711, ↓e_Law_law_712, not_true_eq_false, not_false_eq_true, one0, true_or, or_true, eq_self, bI_z, bI_nz, bI_o, b_ft, bI_1, bI_0, ↓kC_l, ↓kC_r, Option.toList_some, Option.toList_none, List.cons_append, List.nil_append, s1_0, s1_1i, s1_1r, s1_1w, s1_1n, s1_s, s2_0, s2_1i, s2_1r, s2_1w, s2_1n, s2_s, gI_sI, gI_sR, gI_sL, gI_sD, gR_sI, gR_sR, gR_sL, gR_sD, gL_sI, gL_sR, gL_sL, gL_sD, gD_sI, gD_sR, gD_sL, gD_sD, isK_sI, isK_sR, isK_sL, isK_sD, inL_sI, inL_sR, inL_sL, inL_sD, nx_sI, nx_sR, nx_sL, nx_sD, kd_sI, kd_sR, kd_sL, kd_sD, ln_sI, ln_sR, ln_sL, ln_sD, ↓reduceIte, c8_n, c8_1, c8_2, c8_3, c8_4, Nat.reduceAdd, ii_succ, s1, j1, t1, a1, j2, t2, a2, j3, t3, a3, q1, g1, y1, g2, y2, g3, y3, k_s S, e1, R1.k, e2, ↓e_Mdl_thrown_0, ↓e_Mdl_thrown_1, ↓e_Mdl_thrown_4, K2, O2, l1, l2, l3, lg_cmp_self, not_true_eq_false]
theorem d_hears (I : LI L T h) (hT : 5 * T + 5 ≤ L) (hL : L ≤ 2560) (w5 w6 w7 w8 : Option MV) : ∃ h2 v5 v6 v7 v8, (∀ Q, WP Gm j_Law_law 741 [some (.inr (.inl (some 0))), some (.inr (.inl (some 1))), some (.inr (.inl (some 121))), some (.inr (.inl (some 125))), some (.inl (ii (5 * T))), w5, w6, w7, w8] [] h Q = WP Gm j_Law_law 1549 [some (.inr (.inl (some 0))), some (.inr (.inl (some 1))), some (.inr (.inl (some 121))), some (.inr (.inl (some 125))), some (.inl (ii (5 * T))), v5, v6, v7, v8] [] h2 Q) ∧ LI L (T + 1) h2 := by
  obtain ⟨n, B, τ, p, c, b9, x9, p9, m, α, Lv, hB, W, R, O, t125, ⟨s1, s2⟩, rn, rs, M, V, Cv, Rv⟩ := I
  have b2 := R.b2
  have cb := R.cb
  have S := Lv.1.1.1
  have hn8 := n8 S
  have hnx : 121 ≤ nx h := S.1.1
  have hr : okR cM sM h 1 6 = true := ok_big (by omega) (by omega)
  have Cv0 := Cv.t hn8 0
  have j1 : inL h 0 (ii (5 * T + 1)) = true := inL_n (by omega) (by rw [s2]; omega)
  have t1 : (ii (5 * T + 1)).toNatClampNeg = 5 * T + 1 := ii_nat (by omega)
  have a1 : ii (5 * T) + 1 = ii (5 * T + 1) := ii_add _ 1
  have j2 : inL h 0 (ii (5 * T + 2)) = true := inL_n (by omega) (by rw [s2]; omega)
  have t2 : (ii (5 * T + 2)).toNatClampNeg = 5 * T + 2 := ii_nat (by omega)
  have a2 : ii (5 * T) + 2 = ii (5 * T + 2) := ii_add _ 2
  obtain ⟨k, h1, e1, cc, k1, k2, Y⟩ := hv_hears Lv hB W hr O Cv0  (gI h 0 (5 * T + 1)) (gI h 0 (5 * T + 2))
  have R1 := R.cls cc
  have V1 := V.cls R.F cc
  have M1 := M.up cc (by omega) Lv.1.1.1.1.1
  have A1 := Rv.cls R cc
  have A2 := A1.th R1 0
  have n4 := cc.2.2.2.2.2.2.1
  have n5 := cc.2.2.2.2.2.2.2
  have q1 := cc_k cc s1
  have q2 : ln h1 0 = L := by rw [(cc.2.2.2.2.1 0 (isK_spec s1).1).2, s2]
  have g1 : inL h1 0 (ii (5 * T + 1)) = true := inL_n (by omega) (by rw [q2]; omega)
  have y1 : gI h1 0 (5 * T + 1) = gI h 0 (5 * T + 1) := (cc.2.2.2.1 0 _ (Or.inl rfl) (isK_spec s1).1).1
  have g2 : inL h1 0 (ii (5 * T + 2)) = true := inL_n (by omega) (by rw [q2]; omega)
  have y2 : gI h1 0 (5 * T + 2) = gI h 0 (5 * T + 2) := (cc.2.2.2.1 0 _ (Or.inl rfl) (isK_spec s1).1).1
  obtain ⟨v, h2, e2, z1, z2, mo⟩ := qx_mhears R1 A2  V1  (by omega) (by omega) (gI h 0 (5 * T + 1)) (gI h 0 (5 * T + 2))
  have K2 : isK h2 121 kc_Mdl = true := mo_k mo.g
  have O2 : isK h2 125 kc_Out = true := mo_o mo.g (cc_k cc O)
  have keep : gL h2 125 0 = gL h1 125 0 := mo_l mo.g t125
  have b01 := her_01 (n := n) (α := asV α 50 1 0) (gI h 0 (5 * T + 1)) (gI h 0 (5 * T + 2))
  have link : (gI h2 121 0 = k ∧ ¬ k = 0) ∨ (gI h2 121 0 = k ∧ k = 0 ∧ v = 0 ∧ gL h2 125 0 = 0) ∨ (gI h2 121 0 = k ∧ k = 0 ∧ v = 1 ∧ gL h2 125 0 = 1) := by
    by_cases e : k = 0
    · have ev := z2 (k1.symm.trans e)
      have el := keep.trans (k2 e)
      rcases b01 with q | q
      · exact Or.inr (Or.inl ⟨z1.trans k1.symm, e, ev.trans q, by rw [el, q]; rfl⟩)
      · exact Or.inr (Or.inr ⟨z1.trans k1.symm, e, ev.trans q, by rw [el, q]; rfl⟩)
    · exact Or.inl ⟨z1.trans k1.symm, e⟩
  refine ⟨h2, some (.inl k), some (.inl v), w7, w8, fun Q => ?_, li_go cc Y R O t125 ⟨s1, s2⟩ rn rs mo M1⟩
  rcases link with ⟨l1, l2⟩ | ⟨l1, l2, l4, l3⟩ | ⟨l1, l2, l4, l3⟩
  · simp only [↓e_Law_law_741, ↓e_Law_law_742, ↓e_Law_law_743, ↓e_Law_law_745, ↓e_Law_law_746, ↓e_Law_law_747, ↓e_Law_law_748, ↓e_Law_law_749, ↓e_Law_law_751, ↓e_Law_law_752, ↓e_Law_law_753, ↓e_Law_law_754, ↓e_Law_law_755, ↓e_Law_law_758, ↓e_Law_law_760, ↓e_Law_law_761, ↓e_Law_law_762, ↓e_Law_law_764, ↓e_Law_law_765, ↓e_Law_law_766, ↓e_Law_law_767, ↓e_Law_law_768, ↓e_Law_law_770, ↓e_Law_law_771, ↓e_Law_law_772, ↓e_Law_law_773, ↓e_Law_law_776, ↓e_Law_law_778, ↓e_Law_law_779, ↓e_Law_law_782, ↓e_Law_law_784, ↓e_Law_law_787, ↓e_Law_law_788, ↓e_Law_law_789, ↓e_Law_law_791, ↓e_Law_law_794, ↓e_Law_law_795, ↓e_Law_law_798, ↓e_Law_law_800, ↓e_Law_law_803, ↓e_Law_law_804, ↓e_Law_law_807, ↓e_Law_law_808, ↓e_Law_law_809, ↓e_Law_law_812, ↓e_Law_law_813, ↓e_Law_law_814, not_true_eq_false, not_false_eq_true, one0, true_or, or_true, eq_self, bI_z, bI_nz, bI_o, b_ft, bI_1, bI_0, ↓kC_l, ↓kC_r, Option.toList_some, Option.toList_none, List.cons_append, List.nil_append, s1_0, s1_1i, s1_1r, s1_1w, s1_1n, s1_s, s2_0, s2_1i, s2_1r, s2_1w, s2_1n, s2_s, gI_sI, gI_sR, gI_sL, gI_sD, gR_sI, gR_sR, gR_sL, gR_sD, gL_sI, gL_sR, gL_sL, gL_sD, gD_sI, gD_sR, gD_sL, gD_sD, isK_sI, isK_sR, isK_sL, isK_sD, inL_sI, inL_sR, inL_sL, inL_sD, nx_sI, nx_sR, nx_sL, nx_sD, kd_sI, kd_sR, kd_sL, kd_sD, ln_sI, ln_sR, ln_sL, ln_sD, ↓reduceIte, c8_n, c8_1, c8_2, c8_3, c8_4, Nat.reduceAdd, ii_succ, s1, j1, t1, a1, j2, t2, a2, q1, g1, y1, g2, y2, k_s S, e1, R1.k, e2, ↓e_Mdl_thrown_0, ↓e_Mdl_thrown_1, ↓e_Mdl_thrown_4, K2, O2, l1, l2, not_false_eq_true]
  · simp only [↓e_Law_law_741, ↓e_Law_law_742, ↓e_Law_law_743, ↓e_Law_law_745, ↓e_Law_law_746, ↓e_Law_law_747, ↓e_Law_law_748, ↓e_Law_law_749, ↓e_Law_law_751, ↓e_Law_law_752, ↓e_Law_law_753, ↓e_Law_law_754, ↓e_Law_law_755, ↓e_Law_law_758, ↓e_Law_law_760, ↓e_Law_law_761, ↓e_Law_law_762, ↓e_Law_law_764, ↓e_Law_law_765, ↓e_Law_law_766, ↓e_Law_law_767, ↓e_Law_law_768, ↓e_Law_law_770, ↓e_Law_law_771, ↓e_Law_law_772, ↓e_Law_law_773, ↓e_Law_law_776, ↓e_Law_law_778, ↓e_Law_law_779, ↓e_Law_law_782, ↓e_Law_law_784, ↓e_Law_law_787, ↓e_Law_law_788, ↓e_Law_law_789, ↓e_Law_law_791, ↓e_Law_law_794, ↓e_Law_law_795, ↓e_Law_law_798, ↓e_Law_law_800, ↓e_Law_law_803, ↓e_Law_law_804, ↓e_Law_law_807, ↓e_Law_law_808, ↓e_Law_law_809, ↓e_Law_law_812, ↓e_Law_law_813, ↓e_Law_law_814, not_true_eq_false, not_false_eq_true, one0, true_or, or_true, eq_self, bI_z, bI_nz, bI_o, b_ft, bI_1, bI_0, ↓kC_l, ↓kC_r, Option.toList_some, Option.toList_none, List.cons_append, List.nil_append, s1_0, s1_1i, s1_1r, s1_1w, s1_1n, s1_s, s2_0, s2_1i, s2_1r, s2_1w, s2_1n, s2_s, gI_sI, gI_sR, gI_sL, gI_sD, gR_sI, gR_sR, gR_sL, gR_sD, gL_sI, gL_sR, gL_sL, gL_sD, gD_sI, gD_sR, gD_sL, gD_sD, isK_sI, isK_sR, isK_sL, isK_sD, inL_sI, inL_sR, inL_sL, inL_sD, nx_sI, nx_sR, nx_sL, nx_sD, kd_sI, kd_sR, kd_sL, kd_sD, ln_sI, ln_sR, ln_sL, ln_sD, ↓reduceIte, c8_n, c8_1, c8_2, c8_3, c8_4, Nat.reduceAdd, ii_succ, s1, j1, t1, a1, j2, t2, a2, q1, g1, y1, g2, y2, k_s S, e1, R1.k, e2, ↓e_Mdl_thrown_0, ↓e_Mdl_thrown_1, ↓e_Mdl_thrown_4, K2, O2, l1, l2, l3, l4, (show (0 : Int32).toInt64 = 0 from rfl), lg_cmp_self, not_true_eq_false]
  · simp only [↓e_Law_law_741, ↓e_Law_law_742, ↓e_Law_law_743, ↓e_Law_law_745, ↓e_Law_law_746, ↓e_Law_law_747, ↓e_Law_law_748, ↓e_Law_law_749, ↓e_Law_law_751, ↓e_Law_law_752, ↓e_Law_law_753, ↓e_Law_law_754, ↓e_Law_law_755, ↓e_Law_law_758, ↓e_Law_law_760, ↓e_Law_law_761, ↓e_Law_law_762, ↓e_Law_law_764, ↓e_Law_law_765, ↓e_Law_law_766, ↓e_Law_law_767, ↓e_Law_law_768, ↓e_Law_law_770, ↓e_Law_law_771, ↓e_Law_law_772, ↓e_Law_law_773, ↓e_Law_law_776, ↓e_Law_law_778, ↓e_Law_law_779, ↓e_Law_law_782, ↓e_Law_law_784, ↓e_Law_law_787, ↓e_Law_law_788, ↓e_Law_law_789, ↓e_Law_law_791, ↓e_Law_law_794, ↓e_Law_law_795, ↓e_Law_law_798, ↓e_Law_law_800, ↓e_Law_law_803, ↓e_Law_law_804, ↓e_Law_law_807, ↓e_Law_law_808, ↓e_Law_law_809, ↓e_Law_law_812, ↓e_Law_law_813, ↓e_Law_law_814, not_true_eq_false, not_false_eq_true, one0, true_or, or_true, eq_self, bI_z, bI_nz, bI_o, b_ft, bI_1, bI_0, ↓kC_l, ↓kC_r, Option.toList_some, Option.toList_none, List.cons_append, List.nil_append, s1_0, s1_1i, s1_1r, s1_1w, s1_1n, s1_s, s2_0, s2_1i, s2_1r, s2_1w, s2_1n, s2_s, gI_sI, gI_sR, gI_sL, gI_sD, gR_sI, gR_sR, gR_sL, gR_sD, gL_sI, gL_sR, gL_sL, gL_sD, gD_sI, gD_sR, gD_sL, gD_sD, isK_sI, isK_sR, isK_sL, isK_sD, inL_sI, inL_sR, inL_sL, inL_sD, nx_sI, nx_sR, nx_sL, nx_sD, kd_sI, kd_sR, kd_sL, kd_sD, ln_sI, ln_sR, ln_sL, ln_sD, ↓reduceIte, c8_n, c8_1, c8_2, c8_3, c8_4, Nat.reduceAdd, ii_succ, s1, j1, t1, a1, j2, t2, a2, q1, g1, y1, g2, y2, k_s S, e1, R1.k, e2, ↓e_Mdl_thrown_0, ↓e_Mdl_thrown_1, ↓e_Mdl_thrown_4, K2, O2, l1, l2, l3, l4, (show (1 : Int32).toInt64 = 1 from rfl), (show lg_cmp (1 : Int64) 0 = 1 from by decide), (show ¬ (1 : Int32) = 0 by decide), lg_cmp_self, not_true_eq_false]
theorem d_ofNode (I : LI L T h) (hT : 5 * T + 5 ≤ L) (hL : L ≤ 2560) (w5 w6 w7 w8 : Option MV) : ∃ h2 v5 v6 v7 v8, (∀ Q, WP Gm j_Law_law 817 [some (.inr (.inl (some 0))), some (.inr (.inl (some 1))), some (.inr (.inl (some 121))), some (.inr (.inl (some 125))), some (.inl (ii (5 * T))), w5, w6, w7, w8] [] h Q = WP Gm j_Law_law 1549 [some (.inr (.inl (some 0))), some (.inr (.inl (some 1))), some (.inr (.inl (some 121))), some (.inr (.inl (some 125))), some (.inl (ii (5 * T))), v5, v6, v7, v8] [] h2 Q) ∧ LI L (T + 1) h2 := by
  obtain ⟨n, B, τ, p, c, b9, x9, p9, m, α, Lv, hB, W, R, O, t125, ⟨s1, s2⟩, rn, rs, M, V, Cv, Rv⟩ := I
  have b2 := R.b2
  have cb := R.cb
  have S := Lv.1.1.1
  have hn8 := n8 S
  have hnx : 121 ≤ nx h := S.1.1
  have hr : okR cM sM h 1 6 = true := ok_big (by omega) (by omega)
  have Cv0 := Cv.t hn8 0
  have C9 := lv_num Lv hB Cv0
  have j1 : inL h 0 (ii (5 * T + 1)) = true := inL_n (by omega) (by rw [s2]; omega)
  have t1 : (ii (5 * T + 1)).toNatClampNeg = 5 * T + 1 := ii_nat (by omega)
  have a1 : ii (5 * T) + 1 = ii (5 * T + 1) := ii_add _ 1
  have j2 : inL h 0 (ii (5 * T + 2)) = true := inL_n (by omega) (by rw [s2]; omega)
  have t2 : (ii (5 * T + 2)).toNatClampNeg = 5 * T + 2 := ii_nat (by omega)
  have a2 : ii (5 * T) + 2 = ii (5 * T + 2) := ii_add _ 2
  obtain ⟨k, h1, e1, cc, k1, k2, Y⟩ := hv_ofNode Lv hB W hr O Cv0 C9 (gI h 0 (5 * T + 1)) (gI h 0 (5 * T + 2))
  have R1 := R.cls cc
  have V1 := V.cls R.F cc
  have M1 := M.up cc (by omega) Lv.1.1.1.1.1
  have A1 := Rv.cls R cc
  have A2 := A1.th R1 0
  have n4 := cc.2.2.2.2.2.2.1
  have n5 := cc.2.2.2.2.2.2.2
  have q1 := cc_k cc s1
  have q2 : ln h1 0 = L := by rw [(cc.2.2.2.2.1 0 (isK_spec s1).1).2, s2]
  have g1 : inL h1 0 (ii (5 * T + 1)) = true := inL_n (by omega) (by rw [q2]; omega)
  have y1 : gI h1 0 (5 * T + 1) = gI h 0 (5 * T + 1) := (cc.2.2.2.1 0 _ (Or.inl rfl) (isK_spec s1).1).1
  have g2 : inL h1 0 (ii (5 * T + 2)) = true := inL_n (by omega) (by rw [q2]; omega)
  have y2 : gI h1 0 (5 * T + 2) = gI h 0 (5 * T + 2) := (cc.2.2.2.1 0 _ (Or.inl rfl) (isK_spec s1).1).1
  obtain ⟨v, h2, e2, z1, z2, mo⟩ := qx_mofNode R1 A2  V1  (by omega) (by omega) (gI h 0 (5 * T + 1)) (gI h 0 (5 * T + 2))
  have K2 : isK h2 121 kc_Mdl = true := mo_k mo.g
  have O2 : isK h2 125 kc_Out = true := mo_o mo.g (cc_k cc O)
  have keep : gL h2 125 0 = gL h1 125 0 := mo_l mo.g t125
  have link : (gI h2 121 0 = k ∧ ¬ k = 0) ∨ (gI h2 121 0 = k ∧ k = 0 ∧ gL h2 125 0 = v.toInt64) := by
    by_cases e : k = 0
    · exact Or.inr ⟨z1.trans k1.symm, e, by rw [keep, k2 e, z2 (k1.symm.trans e)]⟩
    · exact Or.inl ⟨z1.trans k1.symm, e⟩
  refine ⟨h2, some (.inl k), some (.inl v), w7, w8, fun Q => ?_, li_go cc Y R O t125 ⟨s1, s2⟩ rn rs mo M1⟩
  rcases link with ⟨l1, l2⟩ | ⟨l1, l2, l3⟩
  · simp only [↓e_Law_law_817, ↓e_Law_law_818, ↓e_Law_law_819, ↓e_Law_law_821, ↓e_Law_law_822, ↓e_Law_law_823, ↓e_Law_law_824, ↓e_Law_law_825, ↓e_Law_law_827, ↓e_Law_law_828, ↓e_Law_law_829, ↓e_Law_law_830, ↓e_Law_law_831, ↓e_Law_law_834, ↓e_Law_law_836, ↓e_Law_law_837, ↓e_Law_law_838, ↓e_Law_law_840, ↓e_Law_law_841, ↓e_Law_law_842, ↓e_Law_law_843, ↓e_Law_law_844, ↓e_Law_law_846, ↓e_Law_law_847, ↓e_Law_law_848, ↓e_Law_law_849, ↓e_Law_law_852, ↓e_Law_law_854, ↓e_Law_law_855, ↓e_Law_law_858, ↓e_Law_law_860, ↓e_Law_law_863, ↓e_Law_law_864, ↓e_Law_law_865, ↓e_Law_law_867, ↓e_Law_law_870, ↓e_Law_law_871, ↓e_Law_law_874, ↓e_Law_law_876, ↓e_Law_law_877, ↓e_Law_law_878, ↓e_Law_law_881, ↓e_Law_law_882, ↓e_Law_law_883, not_true_eq_false, not_false_eq_true, one0, true_or, or_true, eq_self, bI_z, bI_nz, bI_o, b_ft, bI_1, bI_0, ↓kC_l, ↓kC_r, Option.toList_some, Option.toList_none, List.cons_append, List.nil_append, s1_0, s1_1i, s1_1r, s1_1w, s1_1n, s1_s, s2_0, s2_1i, s2_1r, s2_1w, s2_1n, s2_s, gI_sI, gI_sR, gI_sL, gI_sD, gR_sI, gR_sR, gR_sL, gR_sD, gL_sI, gL_sR, gL_sL, gL_sD, gD_sI, gD_sR, gD_sL, gD_sD, isK_sI, isK_sR, isK_sL, isK_sD, inL_sI, inL_sR, inL_sL, inL_sD, nx_sI, nx_sR, nx_sL, nx_sD, kd_sI, kd_sR, kd_sL, kd_sD, ln_sI, ln_sR, ln_sL, ln_sD, ↓reduceIte, c8_n, c8_1, c8_2, c8_3, c8_4, Nat.reduceAdd, ii_succ, s1, j1, t1, a1, j2, t2, a2, q1, g1, y1, g2, y2, k_s S, e1, R1.k, e2, ↓e_Mdl_thrown_0, ↓e_Mdl_thrown_1, ↓e_Mdl_thrown_4, K2, O2, l1, l2, not_false_eq_true]
  · simp only [↓e_Law_law_817, ↓e_Law_law_818, ↓e_Law_law_819, ↓e_Law_law_821, ↓e_Law_law_822, ↓e_Law_law_823, ↓e_Law_law_824, ↓e_Law_law_825, ↓e_Law_law_827, ↓e_Law_law_828, ↓e_Law_law_829, ↓e_Law_law_830, ↓e_Law_law_831, ↓e_Law_law_834, ↓e_Law_law_836, ↓e_Law_law_837, ↓e_Law_law_838, ↓e_Law_law_840, ↓e_Law_law_841, ↓e_Law_law_842, ↓e_Law_law_843, ↓e_Law_law_844, ↓e_Law_law_846, ↓e_Law_law_847, ↓e_Law_law_848, ↓e_Law_law_849, ↓e_Law_law_852, ↓e_Law_law_854, ↓e_Law_law_855, ↓e_Law_law_858, ↓e_Law_law_860, ↓e_Law_law_863, ↓e_Law_law_864, ↓e_Law_law_865, ↓e_Law_law_867, ↓e_Law_law_870, ↓e_Law_law_871, ↓e_Law_law_874, ↓e_Law_law_876, ↓e_Law_law_877, ↓e_Law_law_878, ↓e_Law_law_881, ↓e_Law_law_882, ↓e_Law_law_883, not_true_eq_false, not_false_eq_true, one0, true_or, or_true, eq_self, bI_z, bI_nz, bI_o, b_ft, bI_1, bI_0, ↓kC_l, ↓kC_r, Option.toList_some, Option.toList_none, List.cons_append, List.nil_append, s1_0, s1_1i, s1_1r, s1_1w, s1_1n, s1_s, s2_0, s2_1i, s2_1r, s2_1w, s2_1n, s2_s, gI_sI, gI_sR, gI_sL, gI_sD, gR_sI, gR_sR, gR_sL, gR_sD, gL_sI, gL_sR, gL_sL, gL_sD, gD_sI, gD_sR, gD_sL, gD_sD, isK_sI, isK_sR, isK_sL, isK_sD, inL_sI, inL_sR, inL_sL, inL_sD, nx_sI, nx_sR, nx_sL, nx_sD, kd_sI, kd_sR, kd_sL, kd_sD, ln_sI, ln_sR, ln_sL, ln_sD, ↓reduceIte, c8_n, c8_1, c8_2, c8_3, c8_4, Nat.reduceAdd, ii_succ, s1, j1, t1, a1, j2, t2, a2, q1, g1, y1, g2, y2, k_s S, e1, R1.k, e2, ↓e_Mdl_thrown_0, ↓e_Mdl_thrown_1, ↓e_Mdl_thrown_4, K2, O2, l1, l2, l3, lg_cmp_self, not_true_eq_false]
theorem d_inQueue (I : LI L T h) (hT : 5 * T + 5 ≤ L) (hL : L ≤ 2560) (w5 w6 w7 w8 : Option MV) : ∃ h2 v5 v6 v7 v8, (∀ Q, WP Gm j_Law_law 886 [some (.inr (.inl (some 0))), some (.inr (.inl (some 1))), some (.inr (.inl (some 121))), some (.inr (.inl (some 125))), some (.inl (ii (5 * T))), w5, w6, w7, w8] [] h Q = WP Gm j_Law_law 1549 [some (.inr (.inl (some 0))), some (.inr (.inl (some 1))), some (.inr (.inl (some 121))), some (.inr (.inl (some 125))), some (.inl (ii (5 * T))), v5, v6, v7, v8] [] h2 Q) ∧ LI L (T + 1) h2 := by
  obtain ⟨n, B, τ, p, c, b9, x9, p9, m, α, Lv, hB, W, R, O, t125, ⟨s1, s2⟩, rn, rs, M, V, Cv, Rv⟩ := I
  have b2 := R.b2
  have cb := R.cb
  have S := Lv.1.1.1
  have hn8 := n8 S
  have hnx : 121 ≤ nx h := S.1.1
  have hr : okR cM sM h 1 6 = true := ok_big (by omega) (by omega)
  have Cv0 := Cv.t hn8 0
  have W0 := ai_vq Lv.1.1 Cv0
  have j1 : inL h 0 (ii (5 * T + 1)) = true := inL_n (by omega) (by rw [s2]; omega)
  have t1 : (ii (5 * T + 1)).toNatClampNeg = 5 * T + 1 := ii_nat (by omega)
  have a1 : ii (5 * T) + 1 = ii (5 * T + 1) := ii_add _ 1
  have j2 : inL h 0 (ii (5 * T + 2)) = true := inL_n (by omega) (by rw [s2]; omega)
  have t2 : (ii (5 * T + 2)).toNatClampNeg = 5 * T + 2 := ii_nat (by omega)
  have a2 : ii (5 * T) + 2 = ii (5 * T + 2) := ii_add _ 2
  have j3 : inL h 0 (ii (5 * T + 3)) = true := inL_n (by omega) (by rw [s2]; omega)
  have t3 : (ii (5 * T + 3)).toNatClampNeg = 5 * T + 3 := ii_nat (by omega)
  have a3 : ii (5 * T) + 3 = ii (5 * T + 3) := ii_add _ 3
  obtain ⟨k, h1, e1, cc, k1, k2, Y⟩ := hv_inQueue Lv hB W hr O Cv0  (gI h 0 (5 * T + 1)) (gI h 0 (5 * T + 2)) (gI h 0 (5 * T + 3))
  have R1 := R.cls cc
  have V1 := V.cls R.F cc
  have M1 := M.up cc (by omega) Lv.1.1.1.1.1
  have A1 := Rv.cls R cc
  have A2 := A1.th R1 0
  have n4 := cc.2.2.2.2.2.2.1
  have n5 := cc.2.2.2.2.2.2.2
  have q1 := cc_k cc s1
  have q2 : ln h1 0 = L := by rw [(cc.2.2.2.2.1 0 (isK_spec s1).1).2, s2]
  have g1 : inL h1 0 (ii (5 * T + 1)) = true := inL_n (by omega) (by rw [q2]; omega)
  have y1 : gI h1 0 (5 * T + 1) = gI h 0 (5 * T + 1) := (cc.2.2.2.1 0 _ (Or.inl rfl) (isK_spec s1).1).1
  have g2 : inL h1 0 (ii (5 * T + 2)) = true := inL_n (by omega) (by rw [q2]; omega)
  have y2 : gI h1 0 (5 * T + 2) = gI h 0 (5 * T + 2) := (cc.2.2.2.1 0 _ (Or.inl rfl) (isK_spec s1).1).1
  have g3 : inL h1 0 (ii (5 * T + 3)) = true := inL_n (by omega) (by rw [q2]; omega)
  have y3 : gI h1 0 (5 * T + 3) = gI h 0 (5 * T + 3) := (cc.2.2.2.1 0 _ (Or.inl rfl) (isK_spec s1).1).1
  obtain ⟨v, h2, e2, z1, z2, mo⟩ := qx_minQueue R1 A2  V1 W0 (by omega) (by omega) (gI h 0 (5 * T + 1)) (gI h 0 (5 * T + 2)) (gI h 0 (5 * T + 3))
  have K2 : isK h2 121 kc_Mdl = true := mo_k mo.g
  have O2 : isK h2 125 kc_Out = true := mo_o mo.g (cc_k cc O)
  have keep : gL h2 125 0 = gL h1 125 0 := mo_l mo.g t125
  have link : (gI h2 121 0 = k ∧ ¬ k = 0) ∨ (gI h2 121 0 = k ∧ k = 0 ∧ gL h2 125 0 = v.toInt64) := by
    by_cases e : k = 0
    · exact Or.inr ⟨z1.trans k1.symm, e, by rw [keep, k2 e, z2 (k1.symm.trans e)]⟩
    · exact Or.inl ⟨z1.trans k1.symm, e⟩
  refine ⟨h2, some (.inl k), some (.inl v), w7, w8, fun Q => ?_, li_go cc Y R O t125 ⟨s1, s2⟩ rn rs mo M1⟩
  rcases link with ⟨l1, l2⟩ | ⟨l1, l2, l3⟩
  · simp only [↓e_Law_law_886, ↓e_Law_law_887, ↓e_Law_law_888, ↓e_Law_law_890, ↓e_Law_law_891, ↓e_Law_law_892, ↓e_Law_law_893, ↓e_Law_law_894, ↓e_Law_law_896, ↓e_Law_law_897, ↓e_Law_law_898, ↓e_Law_law_899, ↓e_Law_law_900, ↓e_Law_law_902, ↓e_Law_law_903, ↓e_Law_law_904, ↓e_Law_law_905, ↓e_Law_law_906, ↓e_Law_law_909, ↓e_Law_law_911, ↓e_Law_law_912, ↓e_Law_law_913, ↓e_Law_law_915, ↓e_Law_law_916, ↓e_Law_law_917, ↓e_Law_law_918, ↓e_Law_law_919, ↓e_Law_law_921, ↓e_Law_law_922, ↓e_Law_law_923, ↓e_Law_law_924, ↓e_Law_law_925, ↓e_Law_law_927, ↓e_Law_law_928, ↓e_Law_law_929, ↓e_Law_law_930, ↓e_Law_law_933, ↓e_Law_law_935, ↓e_Law_law_936, ↓e_Law_law_939, ↓e_Law_law_941, ↓e_Law_law_944, ↓e_Law_law_945, ↓e_Law_law_946, ↓e_Law_law_948, ↓e_Law_law_951, ↓e_Law_law_952, ↓e_Law_law_955, ↓e_Law_law_957, ↓e_Law_law_958, ↓e_Law_law_959, ↓e_Law_law_962, ↓e_Law_law_963, ↓e_Law_law_964, not_true_eq_false, not_false_eq_true, one0, true_or, or_true, eq_self, bI_z, bI_nz, bI_o, b_ft, bI_1, bI_0, ↓kC_l, ↓kC_r, Option.toList_some, Option.toList_none, List.cons_append, List.nil_append, s1_0, s1_1i, s1_1r, s1_1w, s1_1n, s1_s, s2_0, s2_1i, s2_1r, s2_1w, s2_1n, s2_s, gI_sI, gI_sR, gI_sL, gI_sD, gR_sI, gR_sR, gR_sL, gR_sD, gL_sI, gL_sR, gL_sL, gL_sD, gD_sI, gD_sR, gD_sL, gD_sD, isK_sI, isK_sR, isK_sL, isK_sD, inL_sI, inL_sR, inL_sL, inL_sD, nx_sI, nx_sR, nx_sL, nx_sD, kd_sI, kd_sR, kd_sL, kd_sD, ln_sI, ln_sR, ln_sL, ln_sD, ↓reduceIte, c8_n, c8_1, c8_2, c8_3, c8_4, Nat.reduceAdd, ii_succ, s1, j1, t1, a1, j2, t2, a2, j3, t3, a3, q1, g1, y1, g2, y2, g3, y3, k_s S, e1, R1.k, e2, ↓e_Mdl_thrown_0, ↓e_Mdl_thrown_1, ↓e_Mdl_thrown_4, K2, O2, l1, l2, not_false_eq_true]
  · simp only [↓e_Law_law_886, ↓e_Law_law_887, ↓e_Law_law_888, ↓e_Law_law_890, ↓e_Law_law_891, ↓e_Law_law_892, ↓e_Law_law_893, ↓e_Law_law_894, ↓e_Law_law_896, ↓e_Law_law_897, ↓e_Law_law_898, ↓e_Law_law_899, ↓e_Law_law_900, ↓e_Law_law_902, ↓e_Law_law_903, ↓e_Law_law_904, ↓e_Law_law_905, ↓e_Law_law_906, ↓e_Law_law_909, ↓e_Law_law_911, ↓e_Law_law_912, ↓e_Law_law_913, ↓e_Law_law_915, ↓e_Law_law_916, ↓e_Law_law_917, ↓e_Law_law_918, ↓e_Law_law_919, ↓e_Law_law_921, ↓e_Law_law_922, ↓e_Law_law_923, ↓e_Law_law_924, ↓e_Law_law_925, ↓e_Law_law_927, ↓e_Law_law_928, ↓e_Law_law_929, ↓e_Law_law_930, ↓e_Law_law_933, ↓e_Law_law_935, ↓e_Law_law_936, ↓e_Law_law_939, ↓e_Law_law_941, ↓e_Law_law_944, ↓e_Law_law_945, ↓e_Law_law_946, ↓e_Law_law_948, ↓e_Law_law_951, ↓e_Law_law_952, ↓e_Law_law_955, ↓e_Law_law_957, ↓e_Law_law_958, ↓e_Law_law_959, ↓e_Law_law_962, ↓e_Law_law_963, ↓e_Law_law_964, not_true_eq_false, not_false_eq_true, one0, true_or, or_true, eq_self, bI_z, bI_nz, bI_o, b_ft, bI_1, bI_0, ↓kC_l, ↓kC_r, Option.toList_some, Option.toList_none, List.cons_append, List.nil_append, s1_0, s1_1i, s1_1r, s1_1w, s1_1n, s1_s, s2_0, s2_1i, s2_1r, s2_1w, s2_1n, s2_s, gI_sI, gI_sR, gI_sL, gI_sD, gR_sI, gR_sR, gR_sL, gR_sD, gL_sI, gL_sR, gL_sL, gL_sD, gD_sI, gD_sR, gD_sL, gD_sD, isK_sI, isK_sR, isK_sL, isK_sD, inL_sI, inL_sR, inL_sL, inL_sD, nx_sI, nx_sR, nx_sL, nx_sD, kd_sI, kd_sR, kd_sL, kd_sD, ln_sI, ln_sR, ln_sL, ln_sD, ↓reduceIte, c8_n, c8_1, c8_2, c8_3, c8_4, Nat.reduceAdd, ii_succ, s1, j1, t1, a1, j2, t2, a2, j3, t3, a3, q1, g1, y1, g2, y2, g3, y3, k_s S, e1, R1.k, e2, ↓e_Mdl_thrown_0, ↓e_Mdl_thrown_1, ↓e_Mdl_thrown_4, K2, O2, l1, l2, l3, lg_cmp_self, not_true_eq_false]
theorem d_route (I : LI L T h) (hT : 5 * T + 5 ≤ L) (hL : L ≤ 2560) (w5 w6 w7 w8 : Option MV) : ∃ h2 v5 v6 v7 v8, (∀ Q, WP Gm j_Law_law 967 [some (.inr (.inl (some 0))), some (.inr (.inl (some 1))), some (.inr (.inl (some 121))), some (.inr (.inl (some 125))), some (.inl (ii (5 * T))), w5, w6, w7, w8] [] h Q = WP Gm j_Law_law 1549 [some (.inr (.inl (some 0))), some (.inr (.inl (some 1))), some (.inr (.inl (some 121))), some (.inr (.inl (some 125))), some (.inl (ii (5 * T))), v5, v6, v7, v8] [] h2 Q) ∧ LI L (T + 1) h2 := by
  obtain ⟨n, B, τ, p, c, b9, x9, p9, m, α, Lv, hB, W, R, O, t125, ⟨s1, s2⟩, rn, rs, M, V, Cv, Rv⟩ := I
  have b2 := R.b2
  have cb := R.cb
  have S := Lv.1.1.1
  have hn8 := n8 S
  have hnx : 121 ≤ nx h := S.1.1
  have hr : okR cM sM h 1 6 = true := ok_big (by omega) (by omega)
  have Cv0 := Cv.t hn8 0
  have j1 : inL h 0 (ii (5 * T + 1)) = true := inL_n (by omega) (by rw [s2]; omega)
  have t1 : (ii (5 * T + 1)).toNatClampNeg = 5 * T + 1 := ii_nat (by omega)
  have a1 : ii (5 * T) + 1 = ii (5 * T + 1) := ii_add _ 1
  have j2 : inL h 0 (ii (5 * T + 2)) = true := inL_n (by omega) (by rw [s2]; omega)
  have t2 : (ii (5 * T + 2)).toNatClampNeg = 5 * T + 2 := ii_nat (by omega)
  have a2 : ii (5 * T) + 2 = ii (5 * T + 2) := ii_add _ 2
  have j3 : inL h 0 (ii (5 * T + 3)) = true := inL_n (by omega) (by rw [s2]; omega)
  have t3 : (ii (5 * T + 3)).toNatClampNeg = 5 * T + 3 := ii_nat (by omega)
  have a3 : ii (5 * T) + 3 = ii (5 * T + 3) := ii_add _ 3
  obtain ⟨k, h1, e1, cc, k1, k2, Y⟩ := hv_route Lv hB W hr O Cv0  (gI h 0 (5 * T + 1)) (gI h 0 (5 * T + 2)) (gI h 0 (5 * T + 3))
  have R1 := R.cls cc
  have V1 := V.cls R.F cc
  have M1 := M.up cc (by omega) Lv.1.1.1.1.1
  have A1 := Rv.cls R cc
  have A2 := A1.th R1 0
  have n4 := cc.2.2.2.2.2.2.1
  have n5 := cc.2.2.2.2.2.2.2
  have q1 := cc_k cc s1
  have q2 : ln h1 0 = L := by rw [(cc.2.2.2.2.1 0 (isK_spec s1).1).2, s2]
  have g1 : inL h1 0 (ii (5 * T + 1)) = true := inL_n (by omega) (by rw [q2]; omega)
  have y1 : gI h1 0 (5 * T + 1) = gI h 0 (5 * T + 1) := (cc.2.2.2.1 0 _ (Or.inl rfl) (isK_spec s1).1).1
  have g2 : inL h1 0 (ii (5 * T + 2)) = true := inL_n (by omega) (by rw [q2]; omega)
  have y2 : gI h1 0 (5 * T + 2) = gI h 0 (5 * T + 2) := (cc.2.2.2.1 0 _ (Or.inl rfl) (isK_spec s1).1).1
  have g3 : inL h1 0 (ii (5 * T + 3)) = true := inL_n (by omega) (by rw [q2]; omega)
  have y3 : gI h1 0 (5 * T + 3) = gI h 0 (5 * T + 3) := (cc.2.2.2.1 0 _ (Or.inl rfl) (isK_spec s1).1).1
  obtain ⟨v, h2, e2, z1, z2, mo⟩ := qx_mroute R1 A2  V1  (by omega) (by omega) (gI h 0 (5 * T + 1)) (gI h 0 (5 * T + 2)) (gI h 0 (5 * T + 3))
  have K2 : isK h2 121 kc_Mdl = true := mo_k mo.g
  have O2 : isK h2 125 kc_Out = true := mo_o mo.g (cc_k cc O)
  have keep : gL h2 125 0 = gL h1 125 0 := mo_l mo.g t125
  have link : (gI h2 121 0 = k ∧ ¬ k = 0) ∨ (gI h2 121 0 = k ∧ k = 0 ∧ gL h2 125 0 = v.toInt64) := by
    by_cases e : k = 0
    · exact Or.inr ⟨z1.trans k1.symm, e, by rw [keep, k2 e, z2 (k1.symm.trans e)]⟩
    · exact Or.inl ⟨z1.trans k1.symm, e⟩
  refine ⟨h2, some (.inl k), some (.inl v), w7, w8, fun Q => ?_, li_go cc Y R O t125 ⟨s1, s2⟩ rn rs mo M1⟩
  rcases link with ⟨l1, l2⟩ | ⟨l1, l2, l3⟩
  · simp only [↓e_Law_law_967, ↓e_Law_law_968, ↓e_Law_law_969, ↓e_Law_law_971, ↓e_Law_law_972, ↓e_Law_law_973, ↓e_Law_law_974, ↓e_Law_law_975, ↓e_Law_law_977, ↓e_Law_law_978, ↓e_Law_law_979, ↓e_Law_law_980, ↓e_Law_law_981, ↓e_Law_law_983, ↓e_Law_law_984, ↓e_Law_law_985, ↓e_Law_law_986, ↓e_Law_law_987, ↓e_Law_law_990, ↓e_Law_law_992, ↓e_Law_law_993, ↓e_Law_law_994, ↓e_Law_law_996, ↓e_Law_law_997, ↓e_Law_law_998, ↓e_Law_law_999, ↓e_Law_law_1000, ↓e_Law_law_1002, ↓e_Law_law_1003, ↓e_Law_law_1004, ↓e_Law_law_1005, ↓e_Law_law_1006, ↓e_Law_law_1008, ↓e_Law_law_1009, ↓e_Law_law_1010, ↓e_Law_law_1011, ↓e_Law_law_1014, ↓e_Law_law_1016, ↓e_Law_law_1017, ↓e_Law_law_1020, ↓e_Law_law_1022, ↓e_Law_law_1025, ↓e_Law_law_1026, ↓e_Law_law_1027, ↓e_Law_law_1029, ↓e_Law_law_1032, ↓e_Law_law_1033, ↓e_Law_law_1036, ↓e_Law_law_1038, ↓e_Law_law_1039, ↓e_Law_law_1040, ↓e_Law_law_1043, ↓e_Law_law_1044, ↓e_Law_law_1045, not_true_eq_false, not_false_eq_true, one0, true_or, or_true, eq_self, bI_z, bI_nz, bI_o, b_ft, bI_1, bI_0, ↓kC_l, ↓kC_r, Option.toList_some, Option.toList_none, List.cons_append, List.nil_append, s1_0, s1_1i, s1_1r, s1_1w, s1_1n, s1_s, s2_0, s2_1i, s2_1r, s2_1w, s2_1n, s2_s, gI_sI, gI_sR, gI_sL, gI_sD, gR_sI, gR_sR, gR_sL, gR_sD, gL_sI, gL_sR, gL_sL, gL_sD, gD_sI, gD_sR, gD_sL, gD_sD, isK_sI, isK_sR, isK_sL, isK_sD, inL_sI, inL_sR, inL_sL, inL_sD, nx_sI, nx_sR, nx_sL, nx_sD, kd_sI, kd_sR, kd_sL, kd_sD, ln_sI, ln_sR, ln_sL, ln_sD, ↓reduceIte, c8_n, c8_1, c8_2, c8_3, c8_4, Nat.reduceAdd, ii_succ, s1, j1, t1, a1, j2, t2, a2, j3, t3, a3, q1, g1, y1, g2, y2, g3, y3, k_s S, e1, R1.k, e2, ↓e_Mdl_thrown_0, ↓e_Mdl_thrown_1, ↓e_Mdl_thrown_4, K2, O2, l1, l2, not_false_eq_true]
  · simp only [↓e_Law_law_967, ↓e_Law_law_968, ↓e_Law_law_969, ↓e_Law_law_971, ↓e_Law_law_972, ↓e_Law_law_973, ↓e_Law_law_974, ↓e_Law_law_975, ↓e_Law_law_977, ↓e_Law_law_978, ↓e_Law_law_979, ↓e_Law_law_980, ↓e_Law_law_981, ↓e_Law_law_983, ↓e_Law_law_984, ↓e_Law_law_985, ↓e_Law_law_986, ↓e_Law_law_987, ↓e_Law_law_990, ↓e_Law_law_992, ↓e_Law_law_993, ↓e_Law_law_994, ↓e_Law_law_996, ↓e_Law_law_997, ↓e_Law_law_998, ↓e_Law_law_999, ↓e_Law_law_1000, ↓e_Law_law_1002, ↓e_Law_law_1003, ↓e_Law_law_1004, ↓e_Law_law_1005, ↓e_Law_law_1006, ↓e_Law_law_1008, ↓e_Law_law_1009, ↓e_Law_law_1010, ↓e_Law_law_1011, ↓e_Law_law_1014, ↓e_Law_law_1016, ↓e_Law_law_1017, ↓e_Law_law_1020, ↓e_Law_law_1022, ↓e_Law_law_1025, ↓e_Law_law_1026, ↓e_Law_law_1027, ↓e_Law_law_1029, ↓e_Law_law_1032, ↓e_Law_law_1033, ↓e_Law_law_1036, ↓e_Law_law_1038, ↓e_Law_law_1039, ↓e_Law_law_1040, ↓e_Law_law_1043, ↓e_Law_law_1044, ↓e_Law_law_1045, not_true_eq_false, not_false_eq_true, one0, true_or, or_true, eq_self, bI_z, bI_nz, bI_o, b_ft, bI_1, bI_0, ↓kC_l, ↓kC_r, Option.toList_some, Option.toList_none, List.cons_append, List.nil_append, s1_0, s1_1i, s1_1r, s1_1w, s1_1n, s1_s, s2_0, s2_1i, s2_1r, s2_1w, s2_1n, s2_s, gI_sI, gI_sR, gI_sL, gI_sD, gR_sI, gR_sR, gR_sL, gR_sD, gL_sI, gL_sR, gL_sL, gL_sD, gD_sI, gD_sR, gD_sL, gD_sD, isK_sI, isK_sR, isK_sL, isK_sD, inL_sI, inL_sR, inL_sL, inL_sD, nx_sI, nx_sR, nx_sL, nx_sD, kd_sI, kd_sR, kd_sL, kd_sD, ln_sI, ln_sR, ln_sL, ln_sD, ↓reduceIte, c8_n, c8_1, c8_2, c8_3, c8_4, Nat.reduceAdd, ii_succ, s1, j1, t1, a1, j2, t2, a2, j3, t3, a3, q1, g1, y1, g2, y2, g3, y3, k_s S, e1, R1.k, e2, ↓e_Mdl_thrown_0, ↓e_Mdl_thrown_1, ↓e_Mdl_thrown_4, K2, O2, l1, l2, l3, lg_cmp_self, not_true_eq_false]
theorem d_air (I : LI L T h) (hT : 5 * T + 5 ≤ L) (hL : L ≤ 2560) (w5 w6 w7 w8 : Option MV) : ∃ h2 v5 v6 v7 v8, (∀ Q, WP Gm j_Law_law 1048 [some (.inr (.inl (some 0))), some (.inr (.inl (some 1))), some (.inr (.inl (some 121))), some (.inr (.inl (some 125))), some (.inl (ii (5 * T))), w5, w6, w7, w8] [] h Q = WP Gm j_Law_law 1549 [some (.inr (.inl (some 0))), some (.inr (.inl (some 1))), some (.inr (.inl (some 121))), some (.inr (.inl (some 125))), some (.inl (ii (5 * T))), v5, v6, v7, v8] [] h2 Q) ∧ LI L (T + 1) h2 := by
  obtain ⟨n, B, τ, p, c, b9, x9, p9, m, α, Lv, hB, W, R, O, t125, ⟨s1, s2⟩, rn, rs, M, V, Cv, Rv⟩ := I
  have b2 := R.b2
  have cb := R.cb
  have S := Lv.1.1.1
  have hn8 := n8 S
  have hnx : 121 ≤ nx h := S.1.1
  have hr : okR cM sM h 1 6 = true := ok_big (by omega) (by omega)
  have Cv0 := Cv.t hn8 0
  have j1 : inL h 0 (ii (5 * T + 1)) = true := inL_n (by omega) (by rw [s2]; omega)
  have t1 : (ii (5 * T + 1)).toNatClampNeg = 5 * T + 1 := ii_nat (by omega)
  have a1 : ii (5 * T) + 1 = ii (5 * T + 1) := ii_add _ 1
  obtain ⟨k, h1, e1, cc, k1, k2, Y⟩ := hv_air Lv hB W hr O Cv0 M rfl (gI h 0 (5 * T + 1))
  have R1 := R.cls cc
  have V1 := V.cls R.F cc
  have M1 := M.up cc (by omega) Lv.1.1.1.1.1
  have A1 := Rv.cls R cc
  have A2 := A1.th R1 0
  have n4 := cc.2.2.2.2.2.2.1
  have n5 := cc.2.2.2.2.2.2.2
  have q1 := cc_k cc s1
  have q2 : ln h1 0 = L := by rw [(cc.2.2.2.2.1 0 (isK_spec s1).1).2, s2]
  have g1 : inL h1 0 (ii (5 * T + 1)) = true := inL_n (by omega) (by rw [q2]; omega)
  have y1 : gI h1 0 (5 * T + 1) = gI h 0 (5 * T + 1) := (cc.2.2.2.1 0 _ (Or.inl rfl) (isK_spec s1).1).1
  obtain ⟨v, h2, e2, z1, z2, mo⟩ := qx_mair R1 A2  V1  (by omega) (by omega) (gI h 0 (5 * T + 1))
  have K2 : isK h2 121 kc_Mdl = true := mo_k mo.g
  have O2 : isK h2 125 kc_Out = true := mo_o mo.g (cc_k cc O)
  have keep : gL h2 125 0 = gL h1 125 0 := mo_l mo.g t125
  have link : (gI h2 121 0 = k ∧ ¬ k = 0) ∨ (gI h2 121 0 = k ∧ k = 0 ∧ gL h2 125 0 = v.toInt64) := by
    by_cases e : k = 0
    · exact Or.inr ⟨z1.trans k1.symm, e, by rw [keep, k2 e, z2 (k1.symm.trans e)]⟩
    · exact Or.inl ⟨z1.trans k1.symm, e⟩
  refine ⟨h2, some (.inl k), some (.inl v), w7, w8, fun Q => ?_, li_go cc Y R O t125 ⟨s1, s2⟩ rn rs mo M1⟩
  rcases link with ⟨l1, l2⟩ | ⟨l1, l2, l3⟩
  · simp only [↓e_Law_law_1048, ↓e_Law_law_1049, ↓e_Law_law_1050, ↓e_Law_law_1052, ↓e_Law_law_1053, ↓e_Law_law_1054, ↓e_Law_law_1055, ↓e_Law_law_1056, ↓e_Law_law_1059, ↓e_Law_law_1061, ↓e_Law_law_1062, ↓e_Law_law_1063, ↓e_Law_law_1065, ↓e_Law_law_1066, ↓e_Law_law_1067, ↓e_Law_law_1068, ↓e_Law_law_1071, ↓e_Law_law_1073, ↓e_Law_law_1074, ↓e_Law_law_1077, ↓e_Law_law_1079, ↓e_Law_law_1082, ↓e_Law_law_1083, ↓e_Law_law_1084, ↓e_Law_law_1086, ↓e_Law_law_1089, ↓e_Law_law_1090, ↓e_Law_law_1093, ↓e_Law_law_1095, ↓e_Law_law_1096, ↓e_Law_law_1097, ↓e_Law_law_1100, ↓e_Law_law_1101, ↓e_Law_law_1102, not_true_eq_false, not_false_eq_true, one0, true_or, or_true, eq_self, bI_z, bI_nz, bI_o, b_ft, bI_1, bI_0, ↓kC_l, ↓kC_r, Option.toList_some, Option.toList_none, List.cons_append, List.nil_append, s1_0, s1_1i, s1_1r, s1_1w, s1_1n, s1_s, s2_0, s2_1i, s2_1r, s2_1w, s2_1n, s2_s, gI_sI, gI_sR, gI_sL, gI_sD, gR_sI, gR_sR, gR_sL, gR_sD, gL_sI, gL_sR, gL_sL, gL_sD, gD_sI, gD_sR, gD_sL, gD_sD, isK_sI, isK_sR, isK_sL, isK_sD, inL_sI, inL_sR, inL_sL, inL_sD, nx_sI, nx_sR, nx_sL, nx_sD, kd_sI, kd_sR, kd_sL, kd_sD, ln_sI, ln_sR, ln_sL, ln_sD, ↓reduceIte, c8_n, c8_1, c8_2, c8_3, c8_4, Nat.reduceAdd, ii_succ, s1, j1, t1, a1, q1, g1, y1, k_s S, e1, R1.k, e2, ↓e_Mdl_thrown_0, ↓e_Mdl_thrown_1, ↓e_Mdl_thrown_4, K2, O2, l1, l2, not_false_eq_true]
  · simp only [↓e_Law_law_1048, ↓e_Law_law_1049, ↓e_Law_law_1050, ↓e_Law_law_1052, ↓e_Law_law_1053, ↓e_Law_law_1054, ↓e_Law_law_1055, ↓e_Law_law_1056, ↓e_Law_law_1059, ↓e_Law_law_1061, ↓e_Law_law_1062, ↓e_Law_law_1063, ↓e_Law_law_1065, ↓e_Law_law_1066, ↓e_Law_law_1067, ↓e_Law_law_1068, ↓e_Law_law_1071, ↓e_Law_law_1073, ↓e_Law_law_1074, ↓e_Law_law_1077, ↓e_Law_law_1079, ↓e_Law_law_1082, ↓e_Law_law_1083, ↓e_Law_law_1084, ↓e_Law_law_1086, ↓e_Law_law_1089, ↓e_Law_law_1090, ↓e_Law_law_1093, ↓e_Law_law_1095, ↓e_Law_law_1096, ↓e_Law_law_1097, ↓e_Law_law_1100, ↓e_Law_law_1101, ↓e_Law_law_1102, not_true_eq_false, not_false_eq_true, one0, true_or, or_true, eq_self, bI_z, bI_nz, bI_o, b_ft, bI_1, bI_0, ↓kC_l, ↓kC_r, Option.toList_some, Option.toList_none, List.cons_append, List.nil_append, s1_0, s1_1i, s1_1r, s1_1w, s1_1n, s1_s, s2_0, s2_1i, s2_1r, s2_1w, s2_1n, s2_s, gI_sI, gI_sR, gI_sL, gI_sD, gR_sI, gR_sR, gR_sL, gR_sD, gL_sI, gL_sR, gL_sL, gL_sD, gD_sI, gD_sR, gD_sL, gD_sD, isK_sI, isK_sR, isK_sL, isK_sD, inL_sI, inL_sR, inL_sL, inL_sD, nx_sI, nx_sR, nx_sL, nx_sD, kd_sI, kd_sR, kd_sL, kd_sD, ln_sI, ln_sR, ln_sL, ln_sD, ↓reduceIte, c8_n, c8_1, c8_2, c8_3, c8_4, Nat.reduceAdd, ii_succ, s1, j1, t1, a1, q1, g1, y1, k_s S, e1, R1.k, e2, ↓e_Mdl_thrown_0, ↓e_Mdl_thrown_1, ↓e_Mdl_thrown_4, K2, O2, l1, l2, l3, lg_cmp_self, not_true_eq_false]
theorem d_delivered (I : LI L T h) (hT : 5 * T + 5 ≤ L) (hL : L ≤ 2560) (w5 w6 w7 w8 : Option MV) : ∃ h2 v5 v6 v7 v8, (∀ Q, WP Gm j_Law_law 1105 [some (.inr (.inl (some 0))), some (.inr (.inl (some 1))), some (.inr (.inl (some 121))), some (.inr (.inl (some 125))), some (.inl (ii (5 * T))), w5, w6, w7, w8] [] h Q = WP Gm j_Law_law 1549 [some (.inr (.inl (some 0))), some (.inr (.inl (some 1))), some (.inr (.inl (some 121))), some (.inr (.inl (some 125))), some (.inl (ii (5 * T))), v5, v6, v7, v8] [] h2 Q) ∧ LI L (T + 1) h2 := by
  obtain ⟨n, B, τ, p, c, b9, x9, p9, m, α, Lv, hB, W, R, O, t125, ⟨s1, s2⟩, rn, rs, M, V, Cv, Rv⟩ := I
  have b2 := R.b2
  have cb := R.cb
  have S := Lv.1.1.1
  have hn8 := n8 S
  have hnx : 121 ≤ nx h := S.1.1
  have hr : okR cM sM h 1 6 = true := ok_big (by omega) (by omega)
  have Cv0 := Cv.t hn8 0
  have hs5 := hs_all Lv.1.1 Cv0
  have j1 : inL h 0 (ii (5 * T + 1)) = true := inL_n (by omega) (by rw [s2]; omega)
  have t1 : (ii (5 * T + 1)).toNatClampNeg = 5 * T + 1 := ii_nat (by omega)
  have a1 : ii (5 * T) + 1 = ii (5 * T + 1) := ii_add _ 1
  have j2 : inL h 0 (ii (5 * T + 2)) = true := inL_n (by omega) (by rw [s2]; omega)
  have t2 : (ii (5 * T + 2)).toNatClampNeg = 5 * T + 2 := ii_nat (by omega)
  have a2 : ii (5 * T) + 2 = ii (5 * T + 2) := ii_add _ 2
  obtain ⟨k, h1, e1, cc, k1, k2, Y⟩ := hv_delivered Lv hB W hr O Cv0  (gI h 0 (5 * T + 1)) (gI h 0 (5 * T + 2))
  have R1 := R.cls cc
  have V1 := V.cls R.F cc
  have M1 := M.up cc (by omega) Lv.1.1.1.1.1
  have A1 := Rv.cls R cc
  have A2 := A1.th R1 0
  have n4 := cc.2.2.2.2.2.2.1
  have n5 := cc.2.2.2.2.2.2.2
  have q1 := cc_k cc s1
  have q2 : ln h1 0 = L := by rw [(cc.2.2.2.2.1 0 (isK_spec s1).1).2, s2]
  have g1 : inL h1 0 (ii (5 * T + 1)) = true := inL_n (by omega) (by rw [q2]; omega)
  have y1 : gI h1 0 (5 * T + 1) = gI h 0 (5 * T + 1) := (cc.2.2.2.1 0 _ (Or.inl rfl) (isK_spec s1).1).1
  have g2 : inL h1 0 (ii (5 * T + 2)) = true := inL_n (by omega) (by rw [q2]; omega)
  have y2 : gI h1 0 (5 * T + 2) = gI h 0 (5 * T + 2) := (cc.2.2.2.1 0 _ (Or.inl rfl) (isK_spec s1).1).1
  obtain ⟨v, h2, e2, z1, z2, mo⟩ := qx_mdelivered R1 A2  V1 hs5 (by omega) (by omega) (gI h 0 (5 * T + 1)) (gI h 0 (5 * T + 2))
  have K2 : isK h2 121 kc_Mdl = true := mo_k mo.g
  have O2 : isK h2 125 kc_Out = true := mo_o mo.g (cc_k cc O)
  have keep : gL h2 125 0 = gL h1 125 0 := mo_l mo.g t125
  have b01 := del_01 (n := n) (α := asV α 50 1 0) (gI h 0 (5 * T + 1)) (gI h 0 (5 * T + 2))
  have link : (gI h2 121 0 = k ∧ ¬ k = 0) ∨ (gI h2 121 0 = k ∧ k = 0 ∧ v = 0 ∧ gL h2 125 0 = 0) ∨ (gI h2 121 0 = k ∧ k = 0 ∧ v = 1 ∧ gL h2 125 0 = 1) := by
    by_cases e : k = 0
    · have ev := z2 (k1.symm.trans e)
      have el := keep.trans (k2 e)
      rcases b01 with q | q
      · exact Or.inr (Or.inl ⟨z1.trans k1.symm, e, ev.trans q, by rw [el, q]; rfl⟩)
      · exact Or.inr (Or.inr ⟨z1.trans k1.symm, e, ev.trans q, by rw [el, q]; rfl⟩)
    · exact Or.inl ⟨z1.trans k1.symm, e⟩
  refine ⟨h2, some (.inl k), some (.inl v), w7, w8, fun Q => ?_, li_go cc Y R O t125 ⟨s1, s2⟩ rn rs mo M1⟩
  rcases link with ⟨l1, l2⟩ | ⟨l1, l2, l4, l3⟩ | ⟨l1, l2, l4, l3⟩
  · simp only [↓e_Law_law_1105, ↓e_Law_law_1106, ↓e_Law_law_1107, ↓e_Law_law_1109, ↓e_Law_law_1110, ↓e_Law_law_1111, ↓e_Law_law_1112, ↓e_Law_law_1113, ↓e_Law_law_1115, ↓e_Law_law_1116, ↓e_Law_law_1117, ↓e_Law_law_1118, ↓e_Law_law_1119, ↓e_Law_law_1122, ↓e_Law_law_1124, ↓e_Law_law_1125, ↓e_Law_law_1126, ↓e_Law_law_1128, ↓e_Law_law_1129, ↓e_Law_law_1130, ↓e_Law_law_1131, ↓e_Law_law_1132, ↓e_Law_law_1134, ↓e_Law_law_1135, ↓e_Law_law_1136, ↓e_Law_law_1137, ↓e_Law_law_1140, ↓e_Law_law_1142, ↓e_Law_law_1143, ↓e_Law_law_1146, ↓e_Law_law_1148, ↓e_Law_law_1151, ↓e_Law_law_1152, ↓e_Law_law_1153, ↓e_Law_law_1155, ↓e_Law_law_1158, ↓e_Law_law_1159, ↓e_Law_law_1162, ↓e_Law_law_1164, ↓e_Law_law_1167, ↓e_Law_law_1168, ↓e_Law_law_1171, ↓e_Law_law_1172, ↓e_Law_law_1173, ↓e_Law_law_1176, ↓e_Law_law_1177, ↓e_Law_law_1178, not_true_eq_false, not_false_eq_true, one0, true_or, or_true, eq_self, bI_z, bI_nz, bI_o, b_ft, bI_1, bI_0, ↓kC_l, ↓kC_r, Option.toList_some, Option.toList_none, List.cons_append, List.nil_append, s1_0, s1_1i, s1_1r, s1_1w, s1_1n, s1_s, s2_0, s2_1i, s2_1r, s2_1w, s2_1n, s2_s, gI_sI, gI_sR, gI_sL, gI_sD, gR_sI, gR_sR, gR_sL, gR_sD, gL_sI, gL_sR, gL_sL, gL_sD, gD_sI, gD_sR, gD_sL, gD_sD, isK_sI, isK_sR, isK_sL, isK_sD, inL_sI, inL_sR, inL_sL, inL_sD, nx_sI, nx_sR, nx_sL, nx_sD, kd_sI, kd_sR, kd_sL, kd_sD, ln_sI, ln_sR, ln_sL, ln_sD, ↓reduceIte, c8_n, c8_1, c8_2, c8_3, c8_4, Nat.reduceAdd, ii_succ, s1, j1, t1, a1, j2, t2, a2, q1, g1, y1, g2, y2, k_s S, e1, R1.k, e2, ↓e_Mdl_thrown_0, ↓e_Mdl_thrown_1, ↓e_Mdl_thrown_4, K2, O2, l1, l2, not_false_eq_true]
  · simp only [↓e_Law_law_1105, ↓e_Law_law_1106, ↓e_Law_law_1107, ↓e_Law_law_1109, ↓e_Law_law_1110, ↓e_Law_law_1111, ↓e_Law_law_1112, ↓e_Law_law_1113, ↓e_Law_law_1115, ↓e_Law_law_1116, ↓e_Law_law_1117, ↓e_Law_law_1118, ↓e_Law_law_1119, ↓e_Law_law_1122, ↓e_Law_law_1124, ↓e_Law_law_1125, ↓e_Law_law_1126, ↓e_Law_law_1128, ↓e_Law_law_1129, ↓e_Law_law_1130, ↓e_Law_law_1131, ↓e_Law_law_1132, ↓e_Law_law_1134, ↓e_Law_law_1135, ↓e_Law_law_1136, ↓e_Law_law_1137, ↓e_Law_law_1140, ↓e_Law_law_1142, ↓e_Law_law_1143, ↓e_Law_law_1146, ↓e_Law_law_1148, ↓e_Law_law_1151, ↓e_Law_law_1152, ↓e_Law_law_1153, ↓e_Law_law_1155, ↓e_Law_law_1158, ↓e_Law_law_1159, ↓e_Law_law_1162, ↓e_Law_law_1164, ↓e_Law_law_1167, ↓e_Law_law_1168, ↓e_Law_law_1171, ↓e_Law_law_1172, ↓e_Law_law_1173, ↓e_Law_law_1176, ↓e_Law_law_1177, ↓e_Law_law_1178, not_true_eq_false, not_false_eq_true, one0, true_or, or_true, eq_self, bI_z, bI_nz, bI_o, b_ft, bI_1, bI_0, ↓kC_l, ↓kC_r, Option.toList_some, Option.toList_none, List.cons_append, List.nil_append, s1_0, s1_1i, s1_1r, s1_1w, s1_1n, s1_s, s2_0, s2_1i, s2_1r, s2_1w, s2_1n, s2_s, gI_sI, gI_sR, gI_sL, gI_sD, gR_sI, gR_sR, gR_sL, gR_sD, gL_sI, gL_sR, gL_sL, gL_sD, gD_sI, gD_sR, gD_sL, gD_sD, isK_sI, isK_sR, isK_sL, isK_sD, inL_sI, inL_sR, inL_sL, inL_sD, nx_sI, nx_sR, nx_sL, nx_sD, kd_sI, kd_sR, kd_sL, kd_sD, ln_sI, ln_sR, ln_sL, ln_sD, ↓reduceIte, c8_n, c8_1, c8_2, c8_3, c8_4, Nat.reduceAdd, ii_succ, s1, j1, t1, a1, j2, t2, a2, q1, g1, y1, g2, y2, k_s S, e1, R1.k, e2, ↓e_Mdl_thrown_0, ↓e_Mdl_thrown_1, ↓e_Mdl_thrown_4, K2, O2, l1, l2, l3, l4, (show (0 : Int32).toInt64 = 0 from rfl), lg_cmp_self, not_true_eq_false]
  · simp only [↓e_Law_law_1105, ↓e_Law_law_1106, ↓e_Law_law_1107, ↓e_Law_law_1109, ↓e_Law_law_1110, ↓e_Law_law_1111, ↓e_Law_law_1112, ↓e_Law_law_1113, ↓e_Law_law_1115, ↓e_Law_law_1116, ↓e_Law_law_1117, ↓e_Law_law_1118, ↓e_Law_law_1119, ↓e_Law_law_1122, ↓e_Law_law_1124, ↓e_Law_law_1125, ↓e_Law_law_1126, ↓e_Law_law_1128, ↓e_Law_law_1129, ↓e_Law_law_1130, ↓e_Law_law_1131, ↓e_Law_law_1132, ↓e_Law_law_1134, ↓e_Law_law_1135, ↓e_Law_law_1136, ↓e_Law_law_1137, ↓e_Law_law_1140, ↓e_Law_law_1142, ↓e_Law_law_1143, ↓e_Law_law_1146, ↓e_Law_law_1148, ↓e_Law_law_1151, ↓e_Law_law_1152, ↓e_Law_law_1153, ↓e_Law_law_1155, ↓e_Law_law_1158, ↓e_Law_law_1159, ↓e_Law_law_1162, ↓e_Law_law_1164, ↓e_Law_law_1167, ↓e_Law_law_1168, ↓e_Law_law_1171, ↓e_Law_law_1172, ↓e_Law_law_1173, ↓e_Law_law_1176, ↓e_Law_law_1177, ↓e_Law_law_1178, not_true_eq_false, not_false_eq_true, one0, true_or, or_true, eq_self, bI_z, bI_nz, bI_o, b_ft, bI_1, bI_0, ↓kC_l, ↓kC_r, Option.toList_some, Option.toList_none, List.cons_append, List.nil_append, s1_0, s1_1i, s1_1r, s1_1w, s1_1n, s1_s, s2_0, s2_1i, s2_1r, s2_1w, s2_1n, s2_s, gI_sI, gI_sR, gI_sL, gI_sD, gR_sI, gR_sR, gR_sL, gR_sD, gL_sI, gL_sR, gL_sL, gL_sD, gD_sI, gD_sR, gD_sL, gD_sD, isK_sI, isK_sR, isK_sL, isK_sD, inL_sI, inL_sR, inL_sL, inL_sD, nx_sI, nx_sR, nx_sL, nx_sD, kd_sI, kd_sR, kd_sL, kd_sD, ln_sI, ln_sR, ln_sL, ln_sD, ↓reduceIte, c8_n, c8_1, c8_2, c8_3, c8_4, Nat.reduceAdd, ii_succ, s1, j1, t1, a1, j2, t2, a2, q1, g1, y1, g2, y2, k_s S, e1, R1.k, e2, ↓e_Mdl_thrown_0, ↓e_Mdl_thrown_1, ↓e_Mdl_thrown_4, K2, O2, l1, l2, l3, l4, (show (1 : Int32).toInt64 = 1 from rfl), (show lg_cmp (1 : Int64) 0 = 1 from by decide), (show ¬ (1 : Int32) = 0 by decide), lg_cmp_self, not_true_eq_false]
theorem d_would (I : LI L T h) (hT : 5 * T + 5 ≤ L) (hL : L ≤ 2560) (w5 w6 w7 w8 : Option MV) : ∃ h2 v5 v6 v7 v8, (∀ Q, WP Gm j_Law_law 1238 [some (.inr (.inl (some 0))), some (.inr (.inl (some 1))), some (.inr (.inl (some 121))), some (.inr (.inl (some 125))), some (.inl (ii (5 * T))), w5, w6, w7, w8] [] h Q = WP Gm j_Law_law 1549 [some (.inr (.inl (some 0))), some (.inr (.inl (some 1))), some (.inr (.inl (some 121))), some (.inr (.inl (some 125))), some (.inl (ii (5 * T))), v5, v6, v7, v8] [] h2 Q) ∧ LI L (T + 1) h2 := by
  obtain ⟨n, B, τ, p, c, b9, x9, p9, m, α, Lv, hB, W, R, O, t125, ⟨s1, s2⟩, rn, rs, M, V, Cv, Rv⟩ := I
  have b2 := R.b2
  have cb := R.cb
  have S := Lv.1.1.1
  have hn8 := n8 S
  have hnx : 121 ≤ nx h := S.1.1
  have hr : okR cM sM h 1 6 = true := ok_big (by omega) (by omega)
  have Cv0 := Cv.t hn8 0
  have j1 : inL h 0 (ii (5 * T + 1)) = true := inL_n (by omega) (by rw [s2]; omega)
  have t1 : (ii (5 * T + 1)).toNatClampNeg = 5 * T + 1 := ii_nat (by omega)
  have a1 : ii (5 * T) + 1 = ii (5 * T + 1) := ii_add _ 1
  have j2 : inL h 0 (ii (5 * T + 2)) = true := inL_n (by omega) (by rw [s2]; omega)
  have t2 : (ii (5 * T + 2)).toNatClampNeg = 5 * T + 2 := ii_nat (by omega)
  have a2 : ii (5 * T) + 2 = ii (5 * T + 2) := ii_add _ 2
  obtain ⟨k, h1, e1, cc, k1, k2, Y⟩ := hv_would Lv hB W hr O Cv0  (gI h 0 (5 * T + 1)) (gI h 0 (5 * T + 2))
  have R1 := R.cls cc
  have V1 := V.cls R.F cc
  have M1 := M.up cc (by omega) Lv.1.1.1.1.1
  have A1 := Rv.cls R cc
  have A2 := A1.th R1 0
  have n4 := cc.2.2.2.2.2.2.1
  have n5 := cc.2.2.2.2.2.2.2
  have q1 := cc_k cc s1
  have q2 : ln h1 0 = L := by rw [(cc.2.2.2.2.1 0 (isK_spec s1).1).2, s2]
  have g1 : inL h1 0 (ii (5 * T + 1)) = true := inL_n (by omega) (by rw [q2]; omega)
  have y1 : gI h1 0 (5 * T + 1) = gI h 0 (5 * T + 1) := (cc.2.2.2.1 0 _ (Or.inl rfl) (isK_spec s1).1).1
  have g2 : inL h1 0 (ii (5 * T + 2)) = true := inL_n (by omega) (by rw [q2]; omega)
  have y2 : gI h1 0 (5 * T + 2) = gI h 0 (5 * T + 2) := (cc.2.2.2.1 0 _ (Or.inl rfl) (isK_spec s1).1).1
  obtain ⟨v, h2, e2, z1, z2, mo⟩ := qx_mwould R1 A2  V1  (by omega) (by omega) (gI h 0 (5 * T + 1)) (gI h 0 (5 * T + 2))
  have K2 : isK h2 121 kc_Mdl = true := mo_k mo.g
  have O2 : isK h2 125 kc_Out = true := mo_o mo.g (cc_k cc O)
  have keep : gL h2 125 0 = gL h1 125 0 := mo_l mo.g t125
  have link : (gI h2 121 0 = k ∧ ¬ k = 0) ∨ (gI h2 121 0 = k ∧ k = 0 ∧ gL h2 125 0 = v.toInt64) := by
    by_cases e : k = 0
    · exact Or.inr ⟨z1.trans k1.symm, e, by rw [keep, k2 e, z2 (k1.symm.trans e)]⟩
    · exact Or.inl ⟨z1.trans k1.symm, e⟩
  refine ⟨h2, some (.inl k), some (.inl v), w7, w8, fun Q => ?_, li_go cc Y R O t125 ⟨s1, s2⟩ rn rs mo M1⟩
  rcases link with ⟨l1, l2⟩ | ⟨l1, l2, l3⟩
  · simp only [↓e_Law_law_1238, ↓e_Law_law_1239, ↓e_Law_law_1240, ↓e_Law_law_1242, ↓e_Law_law_1243, ↓e_Law_law_1244, ↓e_Law_law_1245, ↓e_Law_law_1246, ↓e_Law_law_1248, ↓e_Law_law_1249, ↓e_Law_law_1250, ↓e_Law_law_1251, ↓e_Law_law_1252, ↓e_Law_law_1255, ↓e_Law_law_1257, ↓e_Law_law_1258, ↓e_Law_law_1259, ↓e_Law_law_1261, ↓e_Law_law_1262, ↓e_Law_law_1263, ↓e_Law_law_1264, ↓e_Law_law_1265, ↓e_Law_law_1267, ↓e_Law_law_1268, ↓e_Law_law_1269, ↓e_Law_law_1270, ↓e_Law_law_1273, ↓e_Law_law_1275, ↓e_Law_law_1276, ↓e_Law_law_1279, ↓e_Law_law_1281, ↓e_Law_law_1284, ↓e_Law_law_1285, ↓e_Law_law_1286, ↓e_Law_law_1288, ↓e_Law_law_1291, ↓e_Law_law_1292, ↓e_Law_law_1295, ↓e_Law_law_1297, ↓e_Law_law_1298, ↓e_Law_law_1299, ↓e_Law_law_1302, ↓e_Law_law_1303, ↓e_Law_law_1304, not_true_eq_false, not_false_eq_true, one0, true_or, or_true, eq_self, bI_z, bI_nz, bI_o, b_ft, bI_1, bI_0, ↓kC_l, ↓kC_r, Option.toList_some, Option.toList_none, List.cons_append, List.nil_append, s1_0, s1_1i, s1_1r, s1_1w, s1_1n, s1_s, s2_0, s2_1i, s2_1r, s2_1w, s2_1n, s2_s, gI_sI, gI_sR, gI_sL, gI_sD, gR_sI, gR_sR, gR_sL, gR_sD, gL_sI, gL_sR, gL_sL, gL_sD, gD_sI, gD_sR, gD_sL, gD_sD, isK_sI, isK_sR, isK_sL, isK_sD, inL_sI, inL_sR, inL_sL, inL_sD, nx_sI, nx_sR, nx_sL, nx_sD, kd_sI, kd_sR, kd_sL, kd_sD, ln_sI, ln_sR, ln_sL, ln_sD, ↓reduceIte, c8_n, c8_1, c8_2, c8_3, c8_4, Nat.reduceAdd, ii_succ, s1, j1, t1, a1, j2, t2, a2, q1, g1, y1, g2, y2, k_s S, e1, R1.k, e2, ↓e_Mdl_thrown_0, ↓e_Mdl_thrown_1, ↓e_Mdl_thrown_4, K2, O2, l1, l2, not_false_eq_true]
  · simp only [↓e_Law_law_1238, ↓e_Law_law_1239, ↓e_Law_law_1240, ↓e_Law_law_1242, ↓e_Law_law_1243, ↓e_Law_law_1244, ↓e_Law_law_1245, ↓e_Law_law_1246, ↓e_Law_law_1248, ↓e_Law_law_1249, ↓e_Law_law_1250, ↓e_Law_law_1251, ↓e_Law_law_1252, ↓e_Law_law_1255, ↓e_Law_law_1257, ↓e_Law_law_1258, ↓e_Law_law_1259, ↓e_Law_law_1261, ↓e_Law_law_1262, ↓e_Law_law_1263, ↓e_Law_law_1264, ↓e_Law_law_1265, ↓e_Law_law_1267, ↓e_Law_law_1268, ↓e_Law_law_1269, ↓e_Law_law_1270, ↓e_Law_law_1273, ↓e_Law_law_1275, ↓e_Law_law_1276, ↓e_Law_law_1279, ↓e_Law_law_1281, ↓e_Law_law_1284, ↓e_Law_law_1285, ↓e_Law_law_1286, ↓e_Law_law_1288, ↓e_Law_law_1291, ↓e_Law_law_1292, ↓e_Law_law_1295, ↓e_Law_law_1297, ↓e_Law_law_1298, ↓e_Law_law_1299, ↓e_Law_law_1302, ↓e_Law_law_1303, ↓e_Law_law_1304, not_true_eq_false, not_false_eq_true, one0, true_or, or_true, eq_self, bI_z, bI_nz, bI_o, b_ft, bI_1, bI_0, ↓kC_l, ↓kC_r, Option.toList_some, Option.toList_none, List.cons_append, List.nil_append, s1_0, s1_1i, s1_1r, s1_1w, s1_1n, s1_s, s2_0, s2_1i, s2_1r, s2_1w, s2_1n, s2_s, gI_sI, gI_sR, gI_sL, gI_sD, gR_sI, gR_sR, gR_sL, gR_sD, gL_sI, gL_sR, gL_sL, gL_sD, gD_sI, gD_sR, gD_sL, gD_sD, isK_sI, isK_sR, isK_sL, isK_sD, inL_sI, inL_sR, inL_sL, inL_sD, nx_sI, nx_sR, nx_sL, nx_sD, kd_sI, kd_sR, kd_sL, kd_sD, ln_sI, ln_sR, ln_sL, ln_sD, ↓reduceIte, c8_n, c8_1, c8_2, c8_3, c8_4, Nat.reduceAdd, ii_succ, s1, j1, t1, a1, j2, t2, a2, q1, g1, y1, g2, y2, k_s S, e1, R1.k, e2, ↓e_Mdl_thrown_0, ↓e_Mdl_thrown_1, ↓e_Mdl_thrown_4, K2, O2, l1, l2, l3, lg_cmp_self, not_true_eq_false]
theorem d_throughput (I : LI L T h) (hT : 5 * T + 5 ≤ L) (hL : L ≤ 2560) (w5 w6 w7 w8 : Option MV) : ∃ h2 v5 v6 v7 v8, (∀ Q, WP Gm j_Law_law 1307 [some (.inr (.inl (some 0))), some (.inr (.inl (some 1))), some (.inr (.inl (some 121))), some (.inr (.inl (some 125))), some (.inl (ii (5 * T))), w5, w6, w7, w8] [] h Q = WP Gm j_Law_law 1549 [some (.inr (.inl (some 0))), some (.inr (.inl (some 1))), some (.inr (.inl (some 121))), some (.inr (.inl (some 125))), some (.inl (ii (5 * T))), v5, v6, v7, v8] [] h2 Q) ∧ LI L (T + 1) h2 := by
  obtain ⟨n, B, τ, p, c, b9, x9, p9, m, α, Lv, hB, W, R, O, t125, ⟨s1, s2⟩, rn, rs, M, V, Cv, Rv⟩ := I
  have b2 := R.b2
  have cb := R.cb
  have S := Lv.1.1.1
  have hn8 := n8 S
  have hnx : 121 ≤ nx h := S.1.1
  have hr : okR cM sM h 1 6 = true := ok_big (by omega) (by omega)
  have j1 : inL h 0 (ii (5 * T + 1)) = true := inL_n (by omega) (by rw [s2]; omega)
  have t1 : (ii (5 * T + 1)).toNatClampNeg = 5 * T + 1 := ii_nat (by omega)
  have a1 : ii (5 * T) + 1 = ii (5 * T + 1) := ii_add _ 1
  have j2 : inL h 0 (ii (5 * T + 2)) = true := inL_n (by omega) (by rw [s2]; omega)
  have t2 : (ii (5 * T + 2)).toNatClampNeg = 5 * T + 2 := ii_nat (by omega)
  have a2 : ii (5 * T) + 2 = ii (5 * T + 2) := ii_add _ 2
  obtain ⟨k, h1, e1, cc, Y0⟩ := hk_throughput Lv hB W hr O (gI h 0 (5 * T + 1)) (gI h 0 (5 * T + 2))
  obtain ⟨k9, h9, e9, -, sp⟩ := hx_throughput Lv hB W hr O (gI h 0 (5 * T + 1)) (gI h 0 (5 * T + 2))
  obtain ⟨ek, rfl⟩ := det e1 e9
  cases ek
  have Y := Cv.ka hn8 Y0
  have R1 := R.cls cc
  have V1 := V.cls R.F cc
  have M1 := M.up cc (by omega) Lv.1.1.1.1.1
  have A1 := Rv.cls R cc
  have n4 := cc.2.2.2.2.2.2.1
  have n5 := cc.2.2.2.2.2.2.2
  have q1 := cc_k cc s1
  have q2 : ln h1 0 = L := by rw [(cc.2.2.2.2.1 0 (isK_spec s1).1).2, s2]
  have g1 : inL h1 0 (ii (5 * T + 1)) = true := inL_n (by omega) (by rw [q2]; omega)
  have y1 : gI h1 0 (5 * T + 1) = gI h 0 (5 * T + 1) := (cc.2.2.2.1 0 _ (Or.inl rfl) (isK_spec s1).1).1
  have g2 : inL h1 0 (ii (5 * T + 2)) = true := inL_n (by omega) (by rw [q2]; omega)
  have y2 : gI h1 0 (5 * T + 2) = gI h 0 (5 * T + 2) := (cc.2.2.2.1 0 _ (Or.inl rfl) (isK_spec s1).1).1
  obtain ⟨v, h2, e2, J, -⟩ := qj_mthroughput R1 (by omega) (by omega) (gI h 0 (5 * T + 1)) (gI h 0 (5 * T + 2))
  have mo := MoA.jt R1 A1 V1 J
  obtain ⟨v9, h29, e29, -, sq⟩ := qx_mthroughput R1 (by omega) (by omega) (gI h 0 (5 * T + 1)) (gI h 0 (5 * T + 2))
  obtain ⟨ev, rfl⟩ := det e2 e29
  cases ev
  have K2 : isK h2 121 kc_Mdl = true := mo_k mo.g
  have O2 : isK h2 125 kc_Out = true := mo_o mo.g (cc_k cc O)
  have keep : gL h2 125 0 = gL h1 125 0 := mo_l mo.g t125
  obtain ⟨d0, sq1, sq2⟩ := sq
  have link : (gI h2 121 0 = k ∧ ¬ k = 0) ∨ (gI h2 121 0 = k ∧ k = 0 ∧ gD h2 125 1 = v) := by
    rcases sp with ⟨w1, w2⟩ | ⟨w1, w2, m, c, xm, yc, mb, cb2, gd⟩
    · exact Or.inl ⟨(sq2 w1).trans w2.symm, by rw [w2]; decide⟩
    · obtain ⟨z, m2, c2, xm2, yc2, mb2, cb3, ev⟩ := sq1 w1
      have em : m = m2 := by
        have := xm.symm.trans xm2
        rwa [ii_inj (by omega) (by omega)] at this
      have ec : c = c2 := by
        have := yc.symm.trans yc2
        rwa [ii_inj (by omega) (by omega)] at this
      exact Or.inr ⟨z.trans w2.symm, w2, by rw [d0, gd, ev, em, ec]⟩
  refine ⟨h2, some (.inl k), some (.inr (.inr (.inr v))), none, w8, fun Q => ?_, li_go cc Y R O t125 ⟨s1, s2⟩ rn rs mo M1⟩
  rcases link with ⟨l1, l2⟩ | ⟨l1, l2, l3⟩
  · simp only [↓e_Law_law_1307, ↓e_Law_law_1308, ↓e_Law_law_1309, ↓e_Law_law_1311, ↓e_Law_law_1312, ↓e_Law_law_1313, ↓e_Law_law_1314, ↓e_Law_law_1315, ↓e_Law_law_1317, ↓e_Law_law_1318, ↓e_Law_law_1319, ↓e_Law_law_1320, ↓e_Law_law_1321, ↓e_Law_law_1324, ↓e_Law_law_1326, ↓e_Law_law_1327, ↓e_Law_law_1328, ↓e_Law_law_1330, ↓e_Law_law_1331, ↓e_Law_law_1332, ↓e_Law_law_1333, ↓e_Law_law_1334, ↓e_Law_law_1336, ↓e_Law_law_1337, ↓e_Law_law_1338, ↓e_Law_law_1339, ↓e_Law_law_1342, ↓e_Law_law_1344, ↓e_Law_law_1345, ↓e_Law_law_1348, ↓e_Law_law_1350, ↓e_Law_law_1353, ↓e_Law_law_1354, ↓e_Law_law_1355, ↓e_Law_law_1357, ↓e_Law_law_1360, ↓e_Law_law_1361, ↓e_Law_law_1364, ↓e_Law_law_1366, ↓e_Law_law_1367, ↓e_Law_law_1370, ↓e_Law_law_1371, ↓e_Law_law_1374, ↓e_Law_law_1375, ↓e_Law_law_1378, ↓e_Law_law_1379, ↓e_Law_law_1382, ↓e_Law_law_1384, ↓e_Law_law_1386, ↓e_Law_law_1387, ↓e_Law_law_1390, ↓e_Law_law_1391, ↓e_Law_law_1392, not_true_eq_false, not_false_eq_true, one0, true_or, or_true, eq_self, bI_z, bI_nz, bI_o, b_ft, bI_1, bI_0, ↓kC_l, ↓kC_r, Option.toList_some, Option.toList_none, List.cons_append, List.nil_append, s1_0, s1_1i, s1_1r, s1_1w, s1_1n, s1_s, s2_0, s2_1i, s2_1r, s2_1w, s2_1n, s2_s, gI_sI, gI_sR, gI_sL, gI_sD, gR_sI, gR_sR, gR_sL, gR_sD, gL_sI, gL_sR, gL_sL, gL_sD, gD_sI, gD_sR, gD_sL, gD_sD, isK_sI, isK_sR, isK_sL, isK_sD, inL_sI, inL_sR, inL_sL, inL_sD, nx_sI, nx_sR, nx_sL, nx_sD, kd_sI, kd_sR, kd_sL, kd_sD, ln_sI, ln_sR, ln_sL, ln_sD, ↓reduceIte, c8_n, c8_1, c8_2, c8_3, c8_4, Nat.reduceAdd, ii_succ, s1, j1, t1, a1, j2, t2, a2, q1, g1, y1, g2, y2, k_s S, e1, R1.k, e2, ↓e_Mdl_thrown_0, ↓e_Mdl_thrown_1, ↓e_Mdl_thrown_4, K2, O2, l1, l2, not_false_eq_true]
  · by_cases hu : Op.cmpValue (FP.dcmp v v) .l = 0
    · simp only [↓e_Law_law_1307, ↓e_Law_law_1308, ↓e_Law_law_1309, ↓e_Law_law_1311, ↓e_Law_law_1312, ↓e_Law_law_1313, ↓e_Law_law_1314, ↓e_Law_law_1315, ↓e_Law_law_1317, ↓e_Law_law_1318, ↓e_Law_law_1319, ↓e_Law_law_1320, ↓e_Law_law_1321, ↓e_Law_law_1324, ↓e_Law_law_1326, ↓e_Law_law_1327, ↓e_Law_law_1328, ↓e_Law_law_1330, ↓e_Law_law_1331, ↓e_Law_law_1332, ↓e_Law_law_1333, ↓e_Law_law_1334, ↓e_Law_law_1336, ↓e_Law_law_1337, ↓e_Law_law_1338, ↓e_Law_law_1339, ↓e_Law_law_1342, ↓e_Law_law_1344, ↓e_Law_law_1345, ↓e_Law_law_1348, ↓e_Law_law_1350, ↓e_Law_law_1353, ↓e_Law_law_1354, ↓e_Law_law_1355, ↓e_Law_law_1357, ↓e_Law_law_1360, ↓e_Law_law_1361, ↓e_Law_law_1364, ↓e_Law_law_1366, ↓e_Law_law_1367, ↓e_Law_law_1370, ↓e_Law_law_1371, ↓e_Law_law_1374, ↓e_Law_law_1375, ↓e_Law_law_1378, ↓e_Law_law_1379, ↓e_Law_law_1382, ↓e_Law_law_1384, ↓e_Law_law_1386, ↓e_Law_law_1387, ↓e_Law_law_1390, ↓e_Law_law_1391, ↓e_Law_law_1392, not_true_eq_false, not_false_eq_true, one0, true_or, or_true, eq_self, bI_z, bI_nz, bI_o, b_ft, bI_1, bI_0, ↓kC_l, ↓kC_r, Option.toList_some, Option.toList_none, List.cons_append, List.nil_append, s1_0, s1_1i, s1_1r, s1_1w, s1_1n, s1_s, s2_0, s2_1i, s2_1r, s2_1w, s2_1n, s2_s, gI_sI, gI_sR, gI_sL, gI_sD, gR_sI, gR_sR, gR_sL, gR_sD, gL_sI, gL_sR, gL_sL, gL_sD, gD_sI, gD_sR, gD_sL, gD_sD, isK_sI, isK_sR, isK_sL, isK_sD, inL_sI, inL_sR, inL_sL, inL_sD, nx_sI, nx_sR, nx_sL, nx_sD, kd_sI, kd_sR, kd_sL, kd_sD, ln_sI, ln_sR, ln_sL, ln_sD, ↓reduceIte, c8_n, c8_1, c8_2, c8_3, c8_4, Nat.reduceAdd, ii_succ, s1, j1, t1, a1, j2, t2, a2, q1, g1, y1, g2, y2, k_s S, e1, R1.k, e2, ↓e_Mdl_thrown_0, ↓e_Mdl_thrown_1, ↓e_Mdl_thrown_4, K2, O2, l1, l2, l3, hu, not_true_eq_false]
    · simp only [↓e_Law_law_1307, ↓e_Law_law_1308, ↓e_Law_law_1309, ↓e_Law_law_1311, ↓e_Law_law_1312, ↓e_Law_law_1313, ↓e_Law_law_1314, ↓e_Law_law_1315, ↓e_Law_law_1317, ↓e_Law_law_1318, ↓e_Law_law_1319, ↓e_Law_law_1320, ↓e_Law_law_1321, ↓e_Law_law_1324, ↓e_Law_law_1326, ↓e_Law_law_1327, ↓e_Law_law_1328, ↓e_Law_law_1330, ↓e_Law_law_1331, ↓e_Law_law_1332, ↓e_Law_law_1333, ↓e_Law_law_1334, ↓e_Law_law_1336, ↓e_Law_law_1337, ↓e_Law_law_1338, ↓e_Law_law_1339, ↓e_Law_law_1342, ↓e_Law_law_1344, ↓e_Law_law_1345, ↓e_Law_law_1348, ↓e_Law_law_1350, ↓e_Law_law_1353, ↓e_Law_law_1354, ↓e_Law_law_1355, ↓e_Law_law_1357, ↓e_Law_law_1360, ↓e_Law_law_1361, ↓e_Law_law_1364, ↓e_Law_law_1366, ↓e_Law_law_1367, ↓e_Law_law_1370, ↓e_Law_law_1371, ↓e_Law_law_1374, ↓e_Law_law_1375, ↓e_Law_law_1378, ↓e_Law_law_1379, ↓e_Law_law_1382, ↓e_Law_law_1384, ↓e_Law_law_1386, ↓e_Law_law_1387, ↓e_Law_law_1390, ↓e_Law_law_1391, ↓e_Law_law_1392, not_true_eq_false, not_false_eq_true, one0, true_or, or_true, eq_self, bI_z, bI_nz, bI_o, b_ft, bI_1, bI_0, ↓kC_l, ↓kC_r, Option.toList_some, Option.toList_none, List.cons_append, List.nil_append, s1_0, s1_1i, s1_1r, s1_1w, s1_1n, s1_s, s2_0, s2_1i, s2_1r, s2_1w, s2_1n, s2_s, gI_sI, gI_sR, gI_sL, gI_sD, gR_sI, gR_sR, gR_sL, gR_sD, gL_sI, gL_sR, gL_sL, gL_sD, gD_sI, gD_sR, gD_sL, gD_sD, isK_sI, isK_sR, isK_sL, isK_sD, inL_sI, inL_sR, inL_sL, inL_sD, nx_sI, nx_sR, nx_sL, nx_sD, kd_sI, kd_sR, kd_sL, kd_sD, ln_sI, ln_sR, ln_sL, ln_sD, ↓reduceIte, c8_n, c8_1, c8_2, c8_3, c8_4, Nat.reduceAdd, ii_succ, s1, j1, t1, a1, j2, t2, a2, q1, g1, y1, g2, y2, k_s S, e1, R1.k, e2, ↓e_Mdl_thrown_0, ↓e_Mdl_thrown_1, ↓e_Mdl_thrown_4, K2, O2, l1, l2, l3, hu, not_true_eq_false, not_false_eq_true]
theorem d_bestChance (I : LI L T h) (hT : 5 * T + 5 ≤ L) (hL : L ≤ 2560) (w5 w6 w7 w8 : Option MV) : ∃ h2 v5 v6 v7 v8, (∀ Q, WP Gm j_Law_law 1395 [some (.inr (.inl (some 0))), some (.inr (.inl (some 1))), some (.inr (.inl (some 121))), some (.inr (.inl (some 125))), some (.inl (ii (5 * T))), w5, w6, w7, w8] [] h Q = WP Gm j_Law_law 1549 [some (.inr (.inl (some 0))), some (.inr (.inl (some 1))), some (.inr (.inl (some 121))), some (.inr (.inl (some 125))), some (.inl (ii (5 * T))), v5, v6, v7, v8] [] h2 Q) ∧ LI L (T + 1) h2 := by
  obtain ⟨n, B, τ, p, c, b9, x9, p9, m, α, Lv, hB, W, R, O, t125, ⟨s1, s2⟩, rn, rs, M, V, Cv, Rv⟩ := I
  have b2 := R.b2
  have cb := R.cb
  have S := Lv.1.1.1
  have hn8 := n8 S
  have hnx : 121 ≤ nx h := S.1.1
  have hr : okR cM sM h 1 6 = true := ok_big (by omega) (by omega)
  have j1 : inL h 0 (ii (5 * T + 1)) = true := inL_n (by omega) (by rw [s2]; omega)
  have t1 : (ii (5 * T + 1)).toNatClampNeg = 5 * T + 1 := ii_nat (by omega)
  have a1 : ii (5 * T) + 1 = ii (5 * T + 1) := ii_add _ 1
  obtain ⟨k, h1, e1, cc, Y0⟩ := hk_bestChance Lv hB W hr O (gI h 0 (5 * T + 1))
  obtain ⟨k9, h9, e9, -, sp⟩ := hx_bestChance Lv hB W hr O (gI h 0 (5 * T + 1))
  obtain ⟨ek, rfl⟩ := det e1 e9
  cases ek
  have Y := Cv.ka hn8 Y0
  have R1 := R.cls cc
  have V1 := V.cls R.F cc
  have M1 := M.up cc (by omega) Lv.1.1.1.1.1
  have A1 := Rv.cls R cc
  have n4 := cc.2.2.2.2.2.2.1
  have n5 := cc.2.2.2.2.2.2.2
  have q1 := cc_k cc s1
  have q2 : ln h1 0 = L := by rw [(cc.2.2.2.2.1 0 (isK_spec s1).1).2, s2]
  have g1 : inL h1 0 (ii (5 * T + 1)) = true := inL_n (by omega) (by rw [q2]; omega)
  have y1 : gI h1 0 (5 * T + 1) = gI h 0 (5 * T + 1) := (cc.2.2.2.1 0 _ (Or.inl rfl) (isK_spec s1).1).1
  obtain ⟨v, h2, e2, J⟩ := qj_mbest R1 (by omega) (by omega) (gI h 0 (5 * T + 1))
  have mo := MoA.jt R1 A1 V1 J
  obtain ⟨v9, h29, e29, -, sq⟩ := qx_mbest R1 (by omega) (by omega) (gI h 0 (5 * T + 1))
  obtain ⟨ev, rfl⟩ := det e2 e29
  cases ev
  have K2 : isK h2 121 kc_Mdl = true := mo_k mo.g
  have O2 : isK h2 125 kc_Out = true := mo_o mo.g (cc_k cc O)
  have keep : gL h2 125 0 = gL h1 125 0 := mo_l mo.g t125
  have link : (gI h2 121 0 = k ∧ ¬ k = 0) ∨ (gI h2 121 0 = k ∧ k = 0 ∧ gL h2 125 0 = v.toInt64) := by
    rcases sp with ⟨w1, w2⟩ | ⟨m, xm, m1, m2, w2, gd⟩
    · rcases sq with ⟨z1, z2⟩ | ⟨m, xm, m1, m2, -⟩
      · exact Or.inl ⟨z2.trans w2.symm, by rw [w2]; decide⟩
      · have w9 : (decide ((1 : Int32) ≤ ii m) && decide (ii m ≤ 20)) = true := wthn (a := 1) (b := 20) (by omega) (by omega) (by omega) (by omega) (by omega)
        rw [xm, w9] at w1
        cases w1
    · rcases sq with ⟨z1, z2⟩ | ⟨m9, xm9, m19, m29, z2, z3⟩
      · have w9 : (decide ((1 : Int32) ≤ ii m) && decide (ii m ≤ 20)) = true := wthn (a := 1) (b := 20) (by omega) (by omega) (by omega) (by omega) (by omega)
        rw [xm, w9] at z1
        cases z1
      · have em : m = m9 := by
          have := xm.symm.trans xm9
          rwa [ii_inj (by omega) (by omega)] at this
        exact Or.inr ⟨z2.trans w2.symm, w2, by rw [keep, gd, z3, em]⟩
  refine ⟨h2, some (.inl k), some (.inl v), w7, w8, fun Q => ?_, li_go cc Y R O t125 ⟨s1, s2⟩ rn rs mo M1⟩
  rcases link with ⟨l1, l2⟩ | ⟨l1, l2, l3⟩
  · simp only [↓e_Law_law_1395, ↓e_Law_law_1396, ↓e_Law_law_1397, ↓e_Law_law_1399, ↓e_Law_law_1400, ↓e_Law_law_1401, ↓e_Law_law_1402, ↓e_Law_law_1403, ↓e_Law_law_1406, ↓e_Law_law_1408, ↓e_Law_law_1409, ↓e_Law_law_1410, ↓e_Law_law_1412, ↓e_Law_law_1413, ↓e_Law_law_1414, ↓e_Law_law_1415, ↓e_Law_law_1418, ↓e_Law_law_1420, ↓e_Law_law_1421, ↓e_Law_law_1424, ↓e_Law_law_1426, ↓e_Law_law_1429, ↓e_Law_law_1430, ↓e_Law_law_1431, ↓e_Law_law_1433, ↓e_Law_law_1436, ↓e_Law_law_1437, ↓e_Law_law_1440, ↓e_Law_law_1442, ↓e_Law_law_1443, ↓e_Law_law_1444, ↓e_Law_law_1447, ↓e_Law_law_1448, ↓e_Law_law_1449, not_true_eq_false, not_false_eq_true, one0, true_or, or_true, eq_self, bI_z, bI_nz, bI_o, b_ft, bI_1, bI_0, ↓kC_l, ↓kC_r, Option.toList_some, Option.toList_none, List.cons_append, List.nil_append, s1_0, s1_1i, s1_1r, s1_1w, s1_1n, s1_s, s2_0, s2_1i, s2_1r, s2_1w, s2_1n, s2_s, gI_sI, gI_sR, gI_sL, gI_sD, gR_sI, gR_sR, gR_sL, gR_sD, gL_sI, gL_sR, gL_sL, gL_sD, gD_sI, gD_sR, gD_sL, gD_sD, isK_sI, isK_sR, isK_sL, isK_sD, inL_sI, inL_sR, inL_sL, inL_sD, nx_sI, nx_sR, nx_sL, nx_sD, kd_sI, kd_sR, kd_sL, kd_sD, ln_sI, ln_sR, ln_sL, ln_sD, ↓reduceIte, c8_n, c8_1, c8_2, c8_3, c8_4, Nat.reduceAdd, ii_succ, s1, j1, t1, a1, q1, g1, y1, k_s S, e1, R1.k, e2, ↓e_Mdl_thrown_0, ↓e_Mdl_thrown_1, ↓e_Mdl_thrown_4, K2, O2, l1, l2, not_false_eq_true]
  · simp only [↓e_Law_law_1395, ↓e_Law_law_1396, ↓e_Law_law_1397, ↓e_Law_law_1399, ↓e_Law_law_1400, ↓e_Law_law_1401, ↓e_Law_law_1402, ↓e_Law_law_1403, ↓e_Law_law_1406, ↓e_Law_law_1408, ↓e_Law_law_1409, ↓e_Law_law_1410, ↓e_Law_law_1412, ↓e_Law_law_1413, ↓e_Law_law_1414, ↓e_Law_law_1415, ↓e_Law_law_1418, ↓e_Law_law_1420, ↓e_Law_law_1421, ↓e_Law_law_1424, ↓e_Law_law_1426, ↓e_Law_law_1429, ↓e_Law_law_1430, ↓e_Law_law_1431, ↓e_Law_law_1433, ↓e_Law_law_1436, ↓e_Law_law_1437, ↓e_Law_law_1440, ↓e_Law_law_1442, ↓e_Law_law_1443, ↓e_Law_law_1444, ↓e_Law_law_1447, ↓e_Law_law_1448, ↓e_Law_law_1449, not_true_eq_false, not_false_eq_true, one0, true_or, or_true, eq_self, bI_z, bI_nz, bI_o, b_ft, bI_1, bI_0, ↓kC_l, ↓kC_r, Option.toList_some, Option.toList_none, List.cons_append, List.nil_append, s1_0, s1_1i, s1_1r, s1_1w, s1_1n, s1_s, s2_0, s2_1i, s2_1r, s2_1w, s2_1n, s2_s, gI_sI, gI_sR, gI_sL, gI_sD, gR_sI, gR_sR, gR_sL, gR_sD, gL_sI, gL_sR, gL_sL, gL_sD, gD_sI, gD_sR, gD_sL, gD_sD, isK_sI, isK_sR, isK_sL, isK_sD, inL_sI, inL_sR, inL_sL, inL_sD, nx_sI, nx_sR, nx_sL, nx_sD, kd_sI, kd_sR, kd_sL, kd_sD, ln_sI, ln_sR, ln_sL, ln_sD, ↓reduceIte, c8_n, c8_1, c8_2, c8_3, c8_4, Nat.reduceAdd, ii_succ, s1, j1, t1, a1, q1, g1, y1, k_s S, e1, R1.k, e2, ↓e_Mdl_thrown_0, ↓e_Mdl_thrown_1, ↓e_Mdl_thrown_4, K2, O2, l1, l2, l3, lg_cmp_self, not_true_eq_false]
theorem d_auction (I : LI L T h) (hT : 5 * T + 5 ≤ L) (hL : L ≤ 2560) (w5 w6 w7 w8 : Option MV) : ∃ h2 v5 v6 v7 v8, (∀ Q, WP Gm j_Law_law 1452 [some (.inr (.inl (some 0))), some (.inr (.inl (some 1))), some (.inr (.inl (some 121))), some (.inr (.inl (some 125))), some (.inl (ii (5 * T))), w5, w6, w7, w8] [] h Q = WP Gm j_Law_law 1549 [some (.inr (.inl (some 0))), some (.inr (.inl (some 1))), some (.inr (.inl (some 121))), some (.inr (.inl (some 125))), some (.inl (ii (5 * T))), v5, v6, v7, v8] [] h2 Q) ∧ LI L (T + 1) h2 := by
  obtain ⟨n, B, τ, p, c, b9, x9, p9, m, α, Lv, hB, W, R, O, t125, ⟨s1, s2⟩, rn, rs, M, V, Cv, Rv⟩ := I
  have b2 := R.b2
  have cb := R.cb
  have S := Lv.1.1.1
  have hn8 := n8 S
  have hnx : 121 ≤ nx h := S.1.1
  have hr : okR cM sM h 1 6 = true := ok_big (by omega) (by omega)
  have j1 : inL h 0 (ii (5 * T + 1)) = true := inL_n (by omega) (by rw [s2]; omega)
  have t1 : (ii (5 * T + 1)).toNatClampNeg = 5 * T + 1 := ii_nat (by omega)
  have a1 : ii (5 * T) + 1 = ii (5 * T + 1) := ii_add _ 1
  obtain ⟨k, h1, e1, cc, Y0⟩ := hk_auction Lv hB W hr O (gI h 0 (5 * T + 1))
  obtain ⟨k9, h9, e9, -, sp⟩ := hx_auction Lv hB W hr O M (gI h 0 (5 * T + 1))
  obtain ⟨ek, rfl⟩ := det e1 e9
  cases ek
  have Y := Cv.ka hn8 Y0
  have R1 := R.cls cc
  have V1 := V.cls R.F cc
  have M1 := M.up cc (by omega) Lv.1.1.1.1.1
  have A1 := Rv.cls R cc
  have n4 := cc.2.2.2.2.2.2.1
  have n5 := cc.2.2.2.2.2.2.2
  have q1 := cc_k cc s1
  have q2 : ln h1 0 = L := by rw [(cc.2.2.2.2.1 0 (isK_spec s1).1).2, s2]
  have g1 : inL h1 0 (ii (5 * T + 1)) = true := inL_n (by omega) (by rw [q2]; omega)
  have y1 : gI h1 0 (5 * T + 1) = gI h 0 (5 * T + 1) := (cc.2.2.2.1 0 _ (Or.inl rfl) (isK_spec s1).1).1
  obtain ⟨v, h2, e2, J⟩ := qj_mauction R1 (by omega) (by omega) (gI h 0 (5 * T + 1))
  have mo := MoA.jt R1 A1 V1 J
  obtain ⟨v9, h29, e29, -, sq⟩ := qx_mauction R1 V1 (by omega) (by omega) (gI h 0 (5 * T + 1))
  obtain ⟨ev, rfl⟩ := det e2 e29
  cases ev
  have K2 : isK h2 121 kc_Mdl = true := mo_k mo.g
  have O2 : isK h2 125 kc_Out = true := mo_o mo.g (cc_k cc O)
  have keep : gL h2 125 0 = gL h1 125 0 := mo_l mo.g t125
  have link : (gI h2 121 0 = k ∧ ¬ k = 0) ∨ (gI h2 121 0 = k ∧ k = 0 ∧ gL h2 125 0 = v.toInt64) := by
    rcases sp with ⟨w1, w2⟩ | ⟨w, w1, xm, w2, gd⟩
    · rcases sq with ⟨z1, z2⟩ | ⟨w, z1, xm, -⟩
      · exact Or.inl ⟨z2.trans w2.symm, by rw [w2]; decide⟩
      · have w9 : (decide ((0 : Int32) ≤ ii w) && decide (ii w ≤ 6)) = true := wthn (a := 0) (b := 6) (by omega) (by omega) (by omega) (by omega) (by omega)
        rw [xm, w9] at w1
        cases w1
    · rcases sq with ⟨z1, z2⟩ | ⟨w9, z1, xm9, z2, z3⟩
      · have w9 : (decide ((0 : Int32) ≤ ii w) && decide (ii w ≤ 6)) = true := wthn (a := 0) (b := 6) (by omega) (by omega) (by omega) (by omega) (by omega)
        rw [xm, w9] at z1
        cases z1
      · have em : w = w9 := by
          have := xm.symm.trans xm9
          rwa [ii_inj (by omega) (by omega)] at this
        exact Or.inr ⟨z2.trans w2.symm, w2, by rw [keep, gd, z3, em]⟩
  refine ⟨h2, some (.inl k), some (.inl v), w7, w8, fun Q => ?_, li_go cc Y R O t125 ⟨s1, s2⟩ rn rs mo M1⟩
  rcases link with ⟨l1, l2⟩ | ⟨l1, l2, l3⟩
  · simp only [↓e_Law_law_1452, ↓e_Law_law_1453, ↓e_Law_law_1454, ↓e_Law_law_1456, ↓e_Law_law_1457, ↓e_Law_law_1458, ↓e_Law_law_1459, ↓e_Law_law_1460, ↓e_Law_law_1463, ↓e_Law_law_1465, ↓e_Law_law_1466, ↓e_Law_law_1467, ↓e_Law_law_1469, ↓e_Law_law_1470, ↓e_Law_law_1471, ↓e_Law_law_1472, ↓e_Law_law_1475, ↓e_Law_law_1477, ↓e_Law_law_1478, ↓e_Law_law_1481, ↓e_Law_law_1483, ↓e_Law_law_1486, ↓e_Law_law_1487, ↓e_Law_law_1488, ↓e_Law_law_1490, ↓e_Law_law_1493, ↓e_Law_law_1494, ↓e_Law_law_1497, ↓e_Law_law_1499, ↓e_Law_law_1500, ↓e_Law_law_1501, ↓e_Law_law_1504, ↓e_Law_law_1505, ↓e_Law_law_1506, not_true_eq_false, not_false_eq_true, one0, true_or, or_true, eq_self, bI_z, bI_nz, bI_o, b_ft, bI_1, bI_0, ↓kC_l, ↓kC_r, Option.toList_some, Option.toList_none, List.cons_append, List.nil_append, s1_0, s1_1i, s1_1r, s1_1w, s1_1n, s1_s, s2_0, s2_1i, s2_1r, s2_1w, s2_1n, s2_s, gI_sI, gI_sR, gI_sL, gI_sD, gR_sI, gR_sR, gR_sL, gR_sD, gL_sI, gL_sR, gL_sL, gL_sD, gD_sI, gD_sR, gD_sL, gD_sD, isK_sI, isK_sR, isK_sL, isK_sD, inL_sI, inL_sR, inL_sL, inL_sD, nx_sI, nx_sR, nx_sL, nx_sD, kd_sI, kd_sR, kd_sL, kd_sD, ln_sI, ln_sR, ln_sL, ln_sD, ↓reduceIte, c8_n, c8_1, c8_2, c8_3, c8_4, Nat.reduceAdd, ii_succ, s1, j1, t1, a1, q1, g1, y1, k_s S, e1, R1.k, e2, ↓e_Mdl_thrown_0, ↓e_Mdl_thrown_1, ↓e_Mdl_thrown_4, K2, O2, l1, l2, not_false_eq_true]
  · simp only [↓e_Law_law_1452, ↓e_Law_law_1453, ↓e_Law_law_1454, ↓e_Law_law_1456, ↓e_Law_law_1457, ↓e_Law_law_1458, ↓e_Law_law_1459, ↓e_Law_law_1460, ↓e_Law_law_1463, ↓e_Law_law_1465, ↓e_Law_law_1466, ↓e_Law_law_1467, ↓e_Law_law_1469, ↓e_Law_law_1470, ↓e_Law_law_1471, ↓e_Law_law_1472, ↓e_Law_law_1475, ↓e_Law_law_1477, ↓e_Law_law_1478, ↓e_Law_law_1481, ↓e_Law_law_1483, ↓e_Law_law_1486, ↓e_Law_law_1487, ↓e_Law_law_1488, ↓e_Law_law_1490, ↓e_Law_law_1493, ↓e_Law_law_1494, ↓e_Law_law_1497, ↓e_Law_law_1499, ↓e_Law_law_1500, ↓e_Law_law_1501, ↓e_Law_law_1504, ↓e_Law_law_1505, ↓e_Law_law_1506, not_true_eq_false, not_false_eq_true, one0, true_or, or_true, eq_self, bI_z, bI_nz, bI_o, b_ft, bI_1, bI_0, ↓kC_l, ↓kC_r, Option.toList_some, Option.toList_none, List.cons_append, List.nil_append, s1_0, s1_1i, s1_1r, s1_1w, s1_1n, s1_s, s2_0, s2_1i, s2_1r, s2_1w, s2_1n, s2_s, gI_sI, gI_sR, gI_sL, gI_sD, gR_sI, gR_sR, gR_sL, gR_sD, gL_sI, gL_sR, gL_sL, gL_sD, gD_sI, gD_sR, gD_sL, gD_sD, isK_sI, isK_sR, isK_sL, isK_sD, inL_sI, inL_sR, inL_sL, inL_sD, nx_sI, nx_sR, nx_sL, nx_sD, kd_sI, kd_sR, kd_sL, kd_sD, ln_sI, ln_sR, ln_sL, ln_sD, ↓reduceIte, c8_n, c8_1, c8_2, c8_3, c8_4, Nat.reduceAdd, ii_succ, s1, j1, t1, a1, q1, g1, y1, k_s S, e1, R1.k, e2, ↓e_Mdl_thrown_0, ↓e_Mdl_thrown_1, ↓e_Mdl_thrown_4, K2, O2, l1, l2, l3, lg_cmp_self, not_true_eq_false]
theorem d_sell (I : LI L T h) (hT : 5 * T + 5 ≤ L) (hL : L ≤ 2560) (w5 w6 w7 w8 : Option MV) : ∃ h2 v5 v6 v7 v8, (∀ Q, WP Gm j_Law_law 715 [some (.inr (.inl (some 0))), some (.inr (.inl (some 1))), some (.inr (.inl (some 121))), some (.inr (.inl (some 125))), some (.inl (ii (5 * T))), w5, w6, w7, w8] [] h Q = WP Gm j_Law_law 1549 [some (.inr (.inl (some 0))), some (.inr (.inl (some 1))), some (.inr (.inl (some 121))), some (.inr (.inl (some 125))), some (.inl (ii (5 * T))), v5, v6, v7, v8] [] h2 Q) ∧ LI L (T + 1) h2 := by
  obtain ⟨n, B, τ, p, c, b9, x9, p9, m, α, Lv, hB, W, R, O, t125, ⟨s1, s2⟩, rn, rs, M, V, Cv, Rv⟩ := I
  have b2 := R.b2
  have cb := R.cb
  have S := Lv.1.1.1
  have hn8 := n8 S
  have hnx : 121 ≤ nx h := S.1.1
  obtain ⟨h1, e1, cc, M1, Y⟩ := vk_sell Lv hB W Cv M b9 x9 p9
  have R1 := R.cls cc
  have V1 := V.cls R.F cc
  have n4 := cc.2.2.2.2.2.2.1
  have n5 := cc.2.2.2.2.2.2.2
  obtain ⟨h2, e2, mo⟩ := qa_msell R1 V1 (Rv.cls R cc) (by omega) (by omega) b9 x9 p9
  refine ⟨h2, w5, w6, w7, w8, fun Q => ?_, li_go cc Y R O t125 ⟨s1, s2⟩ rn rs mo M1⟩
  simp only [↓e_Law_law_715, ↓e_Law_law_716, ↓e_Law_law_719, ↓e_Law_law_720, ↓e_Law_law_723, ↓e_Law_law_726, ↓e_Law_law_727, not_true_eq_false, not_false_eq_true, one0, true_or, or_true, eq_self, bI_z, bI_nz, bI_o, b_ft, bI_1, bI_0, ↓kC_l, ↓kC_r, Option.toList_some, Option.toList_none, List.cons_append, List.nil_append, s1_0, s1_1i, s1_1r, s1_1w, s1_1n, s1_s, s2_0, s2_1i, s2_1r, s2_1w, s2_1n, s2_s, gI_sI, gI_sR, gI_sL, gI_sD, gR_sI, gR_sR, gR_sL, gR_sD, gL_sI, gL_sR, gL_sL, gL_sD, gD_sI, gD_sR, gD_sL, gD_sD, isK_sI, isK_sR, isK_sL, isK_sD, inL_sI, inL_sR, inL_sL, inL_sD, nx_sI, nx_sR, nx_sL, nx_sD, kd_sI, kd_sR, kd_sL, kd_sD, ln_sI, ln_sR, ln_sL, ln_sD, ↓reduceIte, c8_n, c8_1, c8_2, c8_3, c8_4, Nat.reduceAdd, k_s S, e1, R1.k, e2]
theorem d_fairness (I : LI L T h) (hT : 5 * T + 5 ≤ L) (hL : L ≤ 2560) (w5 w6 w7 w8 : Option MV) : ∃ h2 v5 v6 v7 v8, (∀ Q, WP Gm j_Law_law 1181 [some (.inr (.inl (some 0))), some (.inr (.inl (some 1))), some (.inr (.inl (some 121))), some (.inr (.inl (some 125))), some (.inl (ii (5 * T))), w5, w6, w7, w8] [] h Q = WP Gm j_Law_law 1549 [some (.inr (.inl (some 0))), some (.inr (.inl (some 1))), some (.inr (.inl (some 121))), some (.inr (.inl (some 125))), some (.inl (ii (5 * T))), v5, v6, v7, v8] [] h2 Q) ∧ LI L (T + 1) h2 := by
  obtain ⟨n, B, τ, p, c, b9, x9, p9, m, α, Lv, hB, W, R, O, t125, ⟨s1, s2⟩, rn, rs, M, V, Cv, Rv⟩ := I
  have b2 := R.b2
  have cb := R.cb
  have S := Lv.1.1.1
  have hn8 := n8 S
  have hnx : 121 ≤ nx h := S.1.1
  have cc : CC n (T + 1) h h := CC.refl Lv hB W
  obtain ⟨fx, e1, -, -, ef⟩ := ca_fair Lv Cv hB
  subst ef
  have R1 := R.cls cc
  have V1 := V.cls R.F cc
  have M1 := M.up cc (by omega) Lv.1.1.1.1.1
  have n4 := cc.2.2.2.2.2.2.1
  have n5 := cc.2.2.2.2.2.2.2
  obtain ⟨h2, e2, J⟩ := qx_mfairness R1 (Rv.cls R cc) (by omega) (by omega)
  have mo := MoA.jt R1 (Rv.cls R cc) V1 J
  have K2 : isK h2 121 kc_Mdl = true := mo_k mo.g
  have I2 := li_go cc (Cv) R O t125 ⟨s1, s2⟩ rn rs mo M1
  generalize fai9 n α = v at e1 e2
  refine ⟨h2, some (.inr (.inr (.inr v))), none, some (.inr (.inr (.inr v))), none, fun Q => ?_, I2⟩
  by_cases hu : Op.cmpValue (FP.dcmp v v) .l = 0
  · simp only [↓e_Law_law_1181, ↓e_Law_law_1182, ↓e_Law_law_1185, ↓e_Law_law_1187, ↓e_Law_law_1188, ↓e_Law_law_1191, ↓e_Law_law_1193, ↓e_Law_law_1195, ↓e_Law_law_1197, ↓e_Law_law_1198, ↓e_Law_law_1201, ↓e_Law_law_1203, ↓e_Law_law_1205, ↓e_Law_law_1206, ↓e_Law_law_1209, ↓e_Law_law_1211, ↓e_Law_law_1213, ↓e_Law_law_1214, ↓e_Law_law_1217, ↓e_Law_law_1218, ↓e_Law_law_1219, not_true_eq_false, not_false_eq_true, one0, true_or, or_true, eq_self, bI_z, bI_nz, bI_o, b_ft, bI_1, bI_0, ↓kC_l, ↓kC_r, Option.toList_some, Option.toList_none, List.cons_append, List.nil_append, s1_0, s1_1i, s1_1r, s1_1w, s1_1n, s1_s, s2_0, s2_1i, s2_1r, s2_1w, s2_1n, s2_s, gI_sI, gI_sR, gI_sL, gI_sD, gR_sI, gR_sR, gR_sL, gR_sD, gL_sI, gL_sR, gL_sL, gL_sD, gD_sI, gD_sR, gD_sL, gD_sD, isK_sI, isK_sR, isK_sL, isK_sD, inL_sI, inL_sR, inL_sL, inL_sD, nx_sI, nx_sR, nx_sL, nx_sD, kd_sI, kd_sR, kd_sL, kd_sD, ln_sI, ln_sR, ln_sL, ln_sD, ↓reduceIte, c8_n, c8_1, c8_2, c8_3, c8_4, Nat.reduceAdd, k_s S, e1, R1.k, e2, hu]
  · simp only [↓e_Law_law_1181, ↓e_Law_law_1182, ↓e_Law_law_1185, ↓e_Law_law_1187, ↓e_Law_law_1188, ↓e_Law_law_1191, ↓e_Law_law_1193, ↓e_Law_law_1195, ↓e_Law_law_1197, ↓e_Law_law_1198, ↓e_Law_law_1201, ↓e_Law_law_1203, ↓e_Law_law_1205, ↓e_Law_law_1206, ↓e_Law_law_1209, ↓e_Law_law_1211, ↓e_Law_law_1213, ↓e_Law_law_1214, ↓e_Law_law_1217, ↓e_Law_law_1218, ↓e_Law_law_1219, not_true_eq_false, not_false_eq_true, one0, true_or, or_true, eq_self, bI_z, bI_nz, bI_o, b_ft, bI_1, bI_0, ↓kC_l, ↓kC_r, Option.toList_some, Option.toList_none, List.cons_append, List.nil_append, s1_0, s1_1i, s1_1r, s1_1w, s1_1n, s1_s, s2_0, s2_1i, s2_1r, s2_1w, s2_1n, s2_s, gI_sI, gI_sR, gI_sL, gI_sD, gR_sI, gR_sR, gR_sL, gR_sD, gL_sI, gL_sR, gL_sL, gL_sD, gD_sI, gD_sR, gD_sL, gD_sD, isK_sI, isK_sR, isK_sL, isK_sD, inL_sI, inL_sR, inL_sL, inL_sD, nx_sI, nx_sR, nx_sL, nx_sD, kd_sI, kd_sR, kd_sL, kd_sD, ln_sI, ln_sR, ln_sL, ln_sD, ↓reduceIte, c8_n, c8_1, c8_2, c8_3, c8_4, Nat.reduceAdd, k_s S, e1, R1.k, e2, hu, not_false_eq_true]
theorem d_row (I : LI L T h) (hT : 5 * T + 5 ≤ L) (hL : L ≤ 2560) (w5 w6 w7 w8 : Option MV) : ∃ h2 v5 v6 v7 v8, (∀ Q, WP Gm j_Law_law 1222 [some (.inr (.inl (some 0))), some (.inr (.inl (some 1))), some (.inr (.inl (some 121))), some (.inr (.inl (some 125))), some (.inl (ii (5 * T))), w5, w6, w7, w8] [] h Q = WP Gm j_Law_law 1549 [some (.inr (.inl (some 0))), some (.inr (.inl (some 1))), some (.inr (.inl (some 121))), some (.inr (.inl (some 125))), some (.inl (ii (5 * T))), v5, v6, v7, v8] [] h2 Q) ∧ LI L (T + 1) h2 := by
  obtain ⟨n, B, τ, p, c, b9, x9, p9, m, α, Lv, hB, W, R, O, t125, ⟨s1, s2⟩, rn, rs, M, V, Cv, Rv⟩ := I
  have b2 := R.b2
  have cb := R.cb
  have S := Lv.1.1.1
  have hn8 := n8 S
  have hnx : 121 ≤ nx h := S.1.1
  obtain ⟨r, h1, e1, S1, r1, E1, x1, x2⟩ := s_row9 Lv.1.1 Cv (by omega) (by omega)
  have cc : CC n (T + 1) h h1 := CC.ex Lv hB W E1 x1 x2
  have R1 := R.cls cc
  have V1 := V.cls R.F cc
  have M1 := M.up cc (by omega) Lv.1.1.1.1.1
  have n4 := cc.2.2.2.2.2.2.1
  have n5 := cc.2.2.2.2.2.2.2
  obtain ⟨r', h2, e2, S2, r2, L2, J⟩ := qx_mrow R1 (Rv.cls R cc) (by omega) (by omega)
  have mo := MoA.jt R1 (Rv.cls R cc) V1 J
  have I2 := li_go cc (Cv.ka hn8 (KA.ex E1 hnx)) R O t125 ⟨s1, s2⟩ rn rs mo M1
  have t5 := isK_lt O
  have t1 := isK_lt S1.1
  have S3 := S1.lo (by omega) L2
  have e3 := q_strEq S3 S2 (by omega) (by omega) (by omega) (by omega)
  have k3 := S3.1
  refine ⟨h2, w5, w6, w7, w8, fun Q => ?_, I2⟩
  simp only [↓e_Law_law_1222, ↓e_Law_law_1223, ↓e_Law_law_1226, ↓e_Law_law_1227, ↓e_Law_law_1230, ↓e_Law_law_1233, ↓e_Law_law_1236, ↓e_Law_law_1237, not_true_eq_false, not_false_eq_true, one0, true_or, or_true, eq_self, bI_z, bI_nz, bI_o, b_ft, bI_1, bI_0, ↓kC_l, ↓kC_r, Option.toList_some, Option.toList_none, List.cons_append, List.nil_append, s1_0, s1_1i, s1_1r, s1_1w, s1_1n, s1_s, s2_0, s2_1i, s2_1r, s2_1w, s2_1n, s2_s, gI_sI, gI_sR, gI_sL, gI_sD, gR_sI, gR_sR, gR_sL, gR_sD, gL_sI, gL_sR, gL_sL, gL_sD, gD_sI, gD_sR, gD_sL, gD_sD, isK_sI, isK_sR, isK_sL, isK_sD, inL_sI, inL_sR, inL_sL, inL_sD, nx_sI, nx_sR, nx_sL, nx_sD, kd_sI, kd_sR, kd_sL, kd_sD, ln_sI, ln_sR, ln_sL, ln_sD, ↓reduceIte, c8_n, c8_1, c8_2, c8_3, c8_4, Nat.reduceAdd, k_s S, e1, R1.k, e2, k3, e3]
theorem d_cover (I : LI L T h) (hT : 5 * T + 5 ≤ L) (hL : L ≤ 2560) (w5 w6 w7 w8 : Option MV) : ∃ h2 v5 v6 v7 v8, (∀ Q, WP Gm j_Law_law 1509 [some (.inr (.inl (some 0))), some (.inr (.inl (some 1))), some (.inr (.inl (some 121))), some (.inr (.inl (some 125))), some (.inl (ii (5 * T))), w5, w6, w7, w8] [] h Q = WP Gm j_Law_law 1549 [some (.inr (.inl (some 0))), some (.inr (.inl (some 1))), some (.inr (.inl (some 121))), some (.inr (.inl (some 125))), some (.inl (ii (5 * T))), v5, v6, v7, v8] [] h2 Q) ∧ LI L (T + 1) h2 := by
  obtain ⟨n, B, τ, p, c, b9, x9, p9, m, α, Lv, hB, W, R, O, t125, ⟨s1, s2⟩, rn, rs, M, V, Cv, Rv⟩ := I
  have b2 := R.b2
  have cb := R.cb
  have S := Lv.1.1.1
  have hn8 := n8 S
  have hnx : 121 ≤ nx h := S.1.1
  have cc : CC n (T + 1) h h := CC.refl Lv hB W
  have e1 := vx_cover Cv S
  have R1 := R.cls cc
  have V1 := V.cls R.F cc
  have M1 := M.up cc (by omega) Lv.1.1.1.1.1
  have n4 := cc.2.2.2.2.2.2.1
  have n5 := cc.2.2.2.2.2.2.2
  obtain ⟨h2, e2, J⟩ := qx_mcover R1 (Rv.cls R cc)
  have mo := MoA.jt R1 (Rv.cls R cc) V1 J
  have K2 : isK h2 121 kc_Mdl = true := mo_k mo.g
  have I2 := li_go cc (Cv) R O t125 ⟨s1, s2⟩ rn rs mo M1
  generalize cvr9 n α = v at e1 e2
  refine ⟨h2, w5, w6, w7, w8, fun Q => ?_, I2⟩
  simp only [↓e_Law_law_1509, ↓e_Law_law_1510, ↓e_Law_law_1513, ↓e_Law_law_1514, ↓e_Law_law_1517, ↓e_Law_law_1520, ↓e_Law_law_1521, not_true_eq_false, not_false_eq_true, one0, true_or, or_true, eq_self, bI_z, bI_nz, bI_o, b_ft, bI_1, bI_0, ↓kC_l, ↓kC_r, Option.toList_some, Option.toList_none, List.cons_append, List.nil_append, s1_0, s1_1i, s1_1r, s1_1w, s1_1n, s1_s, s2_0, s2_1i, s2_1r, s2_1w, s2_1n, s2_s, gI_sI, gI_sR, gI_sL, gI_sD, gR_sI, gR_sR, gR_sL, gR_sD, gL_sI, gL_sR, gL_sL, gL_sD, gD_sI, gD_sR, gD_sL, gD_sD, isK_sI, isK_sR, isK_sL, isK_sD, inL_sI, inL_sR, inL_sL, inL_sD, nx_sI, nx_sR, nx_sL, nx_sD, kd_sI, kd_sR, kd_sL, kd_sD, ln_sI, ln_sR, ln_sL, ln_sD, ↓reduceIte, c8_n, c8_1, c8_2, c8_3, c8_4, Nat.reduceAdd, k_s S, e1, R1.k, e2]
theorem d_isSound (I : LI L T h) (hT : 5 * T + 5 ≤ L) (hL : L ≤ 2560) (w5 w6 w7 w8 : Option MV) : ∃ h2 v5 v6 v7 v8, (∀ Q, WP Gm j_Law_law 1522 [some (.inr (.inl (some 0))), some (.inr (.inl (some 1))), some (.inr (.inl (some 121))), some (.inr (.inl (some 125))), some (.inl (ii (5 * T))), w5, w6, w7, w8] [] h Q = WP Gm j_Law_law 1549 [some (.inr (.inl (some 0))), some (.inr (.inl (some 1))), some (.inr (.inl (some 121))), some (.inr (.inl (some 125))), some (.inl (ii (5 * T))), v5, v6, v7, v8] [] h2 Q) ∧ LI L (T + 1) h2 := by
  obtain ⟨n, B, τ, p, c, b9, x9, p9, m, α, Lv, hB, W, R, O, t125, ⟨s1, s2⟩, rn, rs, M, V, Cv, Rv⟩ := I
  have b2 := R.b2
  have cb := R.cb
  have S := Lv.1.1.1
  have hn8 := n8 S
  have hnx : 121 ≤ nx h := S.1.1
  have cc : CC n (T + 1) h h := CC.refl Lv hB W
  have Cv0 := Cv.t hn8 0
  have e1 := q_isSound Lv hB
  have R1 := R.cls cc
  have V1 := V.cls R.F cc
  have M1 := M.up cc (by omega) Lv.1.1.1.1.1
  have n4 := cc.2.2.2.2.2.2.1
  have n5 := cc.2.2.2.2.2.2.2
  obtain ⟨h2, e2, J⟩ := qx_misSound R1 (Rv.cls R cc) V1 (ai_rv Lv.1.1 Cv0) (sn_all Lv.1.1 Cv0) (by omega) (by omega)
  have mo := MoA.jt R1 (Rv.cls R cc) V1 J
  have K2 : isK h2 121 kc_Mdl = true := mo_k mo.g
  have I2 := li_go cc (Cv) R O t125 ⟨s1, s2⟩ rn rs mo M1
  refine ⟨h2, w5, w6, w7, w8, fun Q => ?_, I2⟩
  simp only [↓e_Law_law_1522, ↓e_Law_law_1523, ↓e_Law_law_1526, ↓e_Law_law_1527, ↓e_Law_law_1530, ↓e_Law_law_1533, ↓e_Law_law_1534, not_true_eq_false, not_false_eq_true, one0, true_or, or_true, eq_self, bI_z, bI_nz, bI_o, b_ft, bI_1, bI_0, ↓kC_l, ↓kC_r, Option.toList_some, Option.toList_none, List.cons_append, List.nil_append, s1_0, s1_1i, s1_1r, s1_1w, s1_1n, s1_s, s2_0, s2_1i, s2_1r, s2_1w, s2_1n, s2_s, gI_sI, gI_sR, gI_sL, gI_sD, gR_sI, gR_sR, gR_sL, gR_sD, gL_sI, gL_sR, gL_sL, gL_sD, gD_sI, gD_sR, gD_sL, gD_sD, isK_sI, isK_sR, isK_sL, isK_sD, inL_sI, inL_sR, inL_sL, inL_sD, nx_sI, nx_sR, nx_sL, nx_sD, kd_sI, kd_sR, kd_sL, kd_sD, ln_sI, ln_sR, ln_sL, ln_sD, ↓reduceIte, c8_n, c8_1, c8_2, c8_3, c8_4, Nat.reduceAdd, k_s S, e1, R1.k, e2]
theorem d_digest (I : LI L T h) (hT : 5 * T + 5 ≤ L) (hL : L ≤ 2560) (w5 w6 w7 w8 : Option MV) : ∃ h2 v5 v6 v7 v8, (∀ Q, WP Gm j_Law_law 1535 [some (.inr (.inl (some 0))), some (.inr (.inl (some 1))), some (.inr (.inl (some 121))), some (.inr (.inl (some 125))), some (.inl (ii (5 * T))), w5, w6, w7, w8] [] h Q = WP Gm j_Law_law 1549 [some (.inr (.inl (some 0))), some (.inr (.inl (some 1))), some (.inr (.inl (some 121))), some (.inr (.inl (some 125))), some (.inl (ii (5 * T))), v5, v6, v7, v8] [] h2 Q) ∧ LI L (T + 1) h2 := by
  obtain ⟨n, B, τ, p, c, b9, x9, p9, m, α, Lv, hB, W, R, O, t125, ⟨s1, s2⟩, rn, rs, M, V, Cv, Rv⟩ := I
  have b2 := R.b2
  have cb := R.cb
  have S := Lv.1.1.1
  have hn8 := n8 S
  have hnx : 121 ≤ nx h := S.1.1
  have cc : CC n (T + 1) h h := CC.refl Lv hB W
  have Cv0 := Cv.t hn8 0
  have hr : okR cM sM h 1 6 = true := ok_big (by omega) (by omega)
  have e1 := vx_digest Lv hB W hr Cv0 M rfl
  have R1 := R.cls cc
  have V1 := V.cls R.F cc
  have M1 := M.up cc (by omega) Lv.1.1.1.1.1
  have n4 := cc.2.2.2.2.2.2.1
  have n5 := cc.2.2.2.2.2.2.2
  obtain ⟨h2, e2, J⟩ := qx_mdigest R1 ((Rv.cls R cc).th R1 0) V1 (ai_vq Lv.1.1 Cv0) (ai_rv Lv.1.1 Cv0) (sn_all Lv.1.1 Cv0) (by omega) (by omega)
  have mo := MoA.jt R1 (Rv.cls R cc) V1 J
  have K2 : isK h2 121 kc_Mdl = true := mo_k mo.g
  have I2 := li_go cc (Cv) R O t125 ⟨s1, s2⟩ rn rs mo M1
  generalize dig9 n m (gI h 1 4) b9 x9 p9 (asV α 50 1 0) = v at e1 e2
  refine ⟨h2, w5, w6, w7, w8, fun Q => ?_, I2⟩
  simp only [↓e_Law_law_1535, ↓e_Law_law_1536, ↓e_Law_law_1539, ↓e_Law_law_1540, ↓e_Law_law_1543, ↓e_Law_law_1544, ↓e_Law_law_1547, ↓e_Law_law_1548, not_true_eq_false, not_false_eq_true, one0, true_or, or_true, eq_self, bI_z, bI_nz, bI_o, b_ft, bI_1, bI_0, ↓kC_l, ↓kC_r, Option.toList_some, Option.toList_none, List.cons_append, List.nil_append, s1_0, s1_1i, s1_1r, s1_1w, s1_1n, s1_s, s2_0, s2_1i, s2_1r, s2_1w, s2_1n, s2_s, gI_sI, gI_sR, gI_sL, gI_sD, gR_sI, gR_sR, gR_sL, gR_sD, gL_sI, gL_sR, gL_sL, gL_sD, gD_sI, gD_sR, gD_sL, gD_sD, isK_sI, isK_sR, isK_sL, isK_sD, inL_sI, inL_sR, inL_sL, inL_sD, nx_sI, nx_sR, nx_sL, nx_sD, kd_sI, kd_sR, kd_sL, kd_sD, ln_sI, ln_sR, ln_sL, ln_sD, ↓reduceIte, c8_n, c8_1, c8_2, c8_3, c8_4, Nat.reduceAdd, k_s S, e1, R1.k, e2, lg_cmp_self]
end LWB
