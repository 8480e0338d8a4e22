/-! pstep2: bid, sell, exchange, pass -/
section S2
variable {n B T : Nat} {h : Hp}
theorem AI.out {h' : Hp} {WI WR : Nat → Nat → Prop} (A : AI n h) (F : Fr WI WR nW h h') (hI : ∀ a k, WI a k → 115 ≤ a ∨ a = 1 ∨ (77 ≤ a ∧ a < 114)) (hR : ∀ a k, WR a k → a = 77) (S' : Str n h') (H' : SI n h') : AI n h' := by
  obtain ⟨S, SI9, N, ⟨lk, l1, l2⟩, D⟩ := id A
  have hn := n8 S
  exact ⟨S', H', fun j hj => (N j hj).fr hj (fun a k p q => F.1 _ _ (fun w => by have := hI _ _ w; omega)) (fun x hx => F.1 _ _ (fun w => by have := hI _ _ w; omega)) (F.1 _ _ (fun w => by have := hI _ _ w; omega)) (fun k => F.2.1 _ _ (fun w => by have := hR _ _ w; omega)) (fun k q => F.1 _ _ (fun w => by have := hI _ _ w; omega)) (fun k => F.2.2.1 _ _ (fun w => w)),
    ⟨lk, l1, by rw [F.1 _ _ (fun w => by have := hI _ _ w; omega)]; exact l2⟩, D.fr (F.1 _ _ (fun w => by have := hI _ _ w; omega)) (fun j k hj => F.2.2.1 _ _ (fun w => w))⟩
theorem SI.out {h' : Hp} {WI : Nat → Nat → Prop} (H : SI n h) (F : Fr WI nW nW h h') (hI : ∀ a k, WI a k → 115 ≤ a) : SI n h' := by
  obtain ⟨H1, c, R, I1, I2⟩ := H
  have hcc := R.1
  have e : ∀ a k, a < 115 → gI h' a k = gI h a k := fun a k q => F.1 a k (fun w => by have := hI a k w; omega)
  exact ⟨H1.fr fun k => e _ _ (by omega), c, R.fr fun k => F.2.1 _ _ (fun w => w), I1.fr (fun a b ha hb => e _ _ (by omega)) (fun a b ha hb => e _ _ (by omega)), I2.fr (fun a b ha hb => e _ _ (by omega)) (fun a b ha hb => e _ _ (by omega))⟩
theorem ST.market (L : LV n B T h) (hB : B ≤ 2000) {h' : Hp} (F : Fr wM nW nW h h') {c : Nat} (c1 : c ≤ 10) (c2 : gI h' 115 5 = ii c) (M : MIv c h') : STg 121 n B T h h' := by
  obtain ⟨⟨A, -⟩, C, V, sl⟩ := L
  have hn := n8 A.1
  have eN : ∀ x f, x < n → gI h' (5 + 9 * x) f = gI h (5 + 9 * x) f := fun x f hx => F.1 _ _ (by unfold wM; omega)
  have A' : AI n h' := A.out F (fun a k w => by unfold wM at w; omega) (fun a k w => w.elim) (A.1.fr F nm22) (A.2.1.out F (fun a k w => by unfold wM at w; omega))
  exact ⟨B, Nat.le_refl _, by omega, ⟨⟨A', c, c1, c2, M⟩, C.fr fun x f hx p q => eN x f hx, V.fr fun x hx => eN x 14 hx, by rw [F.1 _ _ (by unfold wM; omega)]; exact sl⟩, MC.refl C hB fun x f hx p q => eN x f hx, MD.fr F, KP.fr F (fun a k w => by unfold wM at w; omega) (fun a k w => w.elim), NF.fr F (fun a k w => by unfold wM at w; omega) (fun _ _ w => w.elim)⟩
theorem wthn {x a b : Nat} (hx : x < 2147483648) (ha : a < 2147483648) (hb : b < 2147483648) (h1 : a ≤ x) (h2 : x ≤ b) : (decide (ii a ≤ ii x) && decide (ii x ≤ ii b)) = true := by
  rw [decide_eq_true (by rw [ii_le ha hx]; exact h1), decide_eq_true (by rw [ii_le hx hb]; exact h2)]
  rfl
theorem s_bid (L : LV n B T h) (hB : B ≤ 2000) (hr : okR cM sM h 1 6 = true) {b x p : Nat} (hb : b < 5) (hx1 : 1 ≤ x) (hx : x ≤ 63) (hp1 : 1 ≤ p) (hp : p ≤ 999) : ∃ r h', (∀ Q, WP Gm j_S_bid 0 [some (.inr (.inl (some 1))), some (.inl (ii b)), some (.inl (ii x)), some (.inl (ii p))] [] h Q = Q r h') ∧ ((∃ v, r = .inl (some (.inl v))) ∨ r = .inr 1) ∧ STg 121 n B T h h' := by
  obtain ⟨⟨A, c, c1, c2, M⟩, -⟩ := id L
  have S := A.1
  have w1 : (decide ((0 : Int32) ≤ ii b) && decide (ii b ≤ 4)) = true := wthn (a := 0) (b := 4) (by omega) (by omega) (by omega) (by omega) (by omega)
  have w2 : (decide ((1 : Int32) ≤ ii x) && decide (ii x ≤ 63)) = true := wthn (a := 1) (b := 63) (by omega) (by omega) (by omega) (by omega) (by omega)
  have w3 : (decide ((1 : Int32) ≤ ii p) && decide (ii p ≤ 999)) = true := wthn (a := 1) (b := 999) (by omega) (by omega) (by omega) (by omega) (by omega)
  have e10 : (ii c < (10 : Int32)) = (c < 10) := ii_lt (j := 10) (by omega) (by omega)
  by_cases h10 : c < 10
  · obtain ⟨h', r1, r2, r3, r4⟩ := q_add S c2 h10 M hb hp1 hp (ii x)
    refine ⟨.inl (some (.inl (ii c))), h', fun Q => ?_, Or.inl ⟨_, rfl⟩, ST.market L hB r2 (c := c + 1) (by omega) r3 r4⟩
    simp only [↓e_S_bid_0, ↓e_S_bid_1, ↓e_S_bid_2, ↓e_S_bid_3, ↓e_S_bid_6, ↓e_S_bid_9, ↓e_S_bid_10, ↓e_S_bid_11, ↓e_S_bid_13, ↓e_S_bid_16, ↓e_S_bid_19, ↓e_S_bid_20, ↓e_S_bid_21, ↓e_S_bid_24, ↓e_S_bid_27, ↓e_S_bid_30, ↓e_S_bid_40, ↓e_S_bid_41, ↓e_S_bid_44, ↓e_S_bid_47, ↓e_S_bid_49, ↓e_S_bid_52, ↓e_S_bid_62, ↓e_S_bid_63, ↓e_S_bid_66, ↓e_S_bid_67, ↓e_S_bid_68, ↓e_S_bid_69, ↓e_S_bid_72, not_true_eq_false, not_false_eq_true, one0, true_or, or_true, eq_self, bI_z, bI_nz, bI_o, b_ft, bI_1, bI_0, ↓kC_l, ↓kC_r, Option.toList_some, Option.toList_none, List.cons_append, List.nil_append, s1_0, s1_1i, s1_1r, s1_1w, s1_1n, s1_s, s2_0, s2_1i, s2_1r, s2_1w, s2_1n, s2_s, gI_sI, gI_sR, gI_sL, gI_sD, gR_sI, gR_sR, gR_sL, gR_sD, gL_sI, gL_sR, gL_sL, gL_sD, gD_sI, gD_sR, gD_sL, gD_sD, isK_sI, isK_sR, isK_sL, isK_sD, inL_sI, inL_sR, inL_sL, inL_sD, nx_sI, nx_sR, nx_sL, nx_sD, kd_sI, kd_sR, kd_sL, kd_sD, ln_sI, ln_sR, ln_sL, ln_sD, ↓reduceIte, c8_n, c8_1, c8_2, c8_3, c8_4, Nat.reduceAdd, k_s S, k_land S, k_nodes S, k_hear S, k_routes S, k_traffic S, k_market S, g_cnt S, r_land S, r_routes S, r_traffic S, r_market S, r_nodes S, r_hear S, r_rland S, r_tland S, r_troutes S, q_isWithin, w1, w2, w3, Bool.true_eq_false, c2, e10, h10, r1]
  · refine ⟨.inr 1, _, fun Q => ?_, Or.inr rfl, ST.exc L hB kc_IllegalStateException⟩
    simp only [↓e_S_bid_0, ↓e_S_bid_1, ↓e_S_bid_2, ↓e_S_bid_3, ↓e_S_bid_6, ↓e_S_bid_9, ↓e_S_bid_10, ↓e_S_bid_11, ↓e_S_bid_13, ↓e_S_bid_16, ↓e_S_bid_19, ↓e_S_bid_20, ↓e_S_bid_21, ↓e_S_bid_24, ↓e_S_bid_27, ↓e_S_bid_30, ↓e_S_bid_40, ↓e_S_bid_41, ↓e_S_bid_44, ↓e_S_bid_47, ↓e_S_bid_49, ↓e_S_bid_52, ↓e_S_bid_62, ↓e_S_bid_63, ↓e_S_bid_66, ↓e_S_bid_67, ↓e_S_bid_68, ↓e_S_bid_69, ↓e_S_bid_72, not_true_eq_false, not_false_eq_true, one0, true_or, or_true, eq_self, bI_z, bI_nz, bI_o, b_ft, bI_1, bI_0, ↓kC_l, ↓kC_r, Option.toList_some, Option.toList_none, List.cons_append, List.nil_append, s1_0, s1_1i, s1_1r, s1_1w, s1_1n, s1_s, s2_0, s2_1i, s2_1r, s2_1w, s2_1n, s2_s, gI_sI, gI_sR, gI_sL, gI_sD, gR_sI, gR_sR, gR_sL, gR_sD, gL_sI, gL_sR, gL_sL, gL_sD, gD_sI, gD_sR, gD_sL, gD_sD, isK_sI, isK_sR, isK_sL, isK_sD, inL_sI, inL_sR, inL_sL, inL_sD, nx_sI, nx_sR, nx_sL, nx_sD, kd_sI, kd_sR, kd_sL, kd_sD, ln_sI, ln_sR, ln_sL, ln_sD, ↓reduceIte, c8_n, c8_1, c8_2, c8_3, c8_4, Nat.reduceAdd, k_s S, k_land S, k_nodes S, k_hear S, k_routes S, k_traffic S, k_market S, g_cnt S, r_land S, r_routes S, r_traffic S, r_market S, r_nodes S, r_hear S, r_rland S, r_tland S, r_troutes S, q_isWithin, w1, w2, w3, Bool.true_eq_false, c2, e10, h10, hr]
theorem s_sell (L : LV n B T h) (hB : B ≤ 2000) : ∃ r h', (∀ Q, WP Gm j_S_sell 0 [some (.inr (.inl (some 1)))] [] h Q = Q r h') ∧ (∃ v, r = .inl (some (.inl v))) ∧ STg 121 n B T h h' := by
  obtain ⟨⟨A, c, c1, c2, M⟩, -⟩ := id L
  have S := A.1
  obtain ⟨v, h', r1, r2, r3, r4, r5, r6, r7⟩ := q_sellAll S c2 c1
  refine ⟨.inl (some (.inl v)), h', fun Q => ?_, ⟨_, rfl⟩, ST.market L hB r2 (c := 0) (by omega) r3 (MIv.zero (by rw [r7 _ _ (by omega) (by omega)]; exact M.2.1) r4 r5 r6)⟩
  simp only [↓e_S_sell_0, ↓e_S_sell_1, ↓e_S_sell_4, ↓e_S_sell_7, not_true_eq_false, not_false_eq_true, one0, true_or, or_true, eq_self, bI_z, bI_nz, bI_o, b_ft, bI_1, bI_0, ↓kC_l, ↓kC_r, Option.toList_some, Option.toList_none, List.cons_append, List.nil_append, s1_0, s1_1i, s1_1r, s1_1w, s1_1n, s1_s, s2_0, s2_1i, s2_1r, s2_1w, s2_1n, s2_s, gI_sI, gI_sR, gI_sL, gI_sD, gR_sI, gR_sR, gR_sL, gR_sD, gL_sI, gL_sR, gL_sL, gL_sD, gD_sI, gD_sR, gD_sL, gD_sD, isK_sI, isK_sR, isK_sL, isK_sD, inL_sI, inL_sR, inL_sL, inL_sD, nx_sI, nx_sR, nx_sL, nx_sD, kd_sI, kd_sR, kd_sL, kd_sD, ln_sI, ln_sR, ln_sL, ln_sD, ↓reduceIte, c8_n, c8_1, c8_2, c8_3, c8_4, Nat.reduceAdd, k_s S, k_land S, k_nodes S, k_hear S, k_routes S, k_traffic S, k_market S, g_cnt S, r_land S, r_routes S, r_traffic S, r_market S, r_nodes S, r_hear S, r_rland S, r_tland S, r_troutes S, r1]
theorem s_exchange (L : LV n B T h) (hB : B ≤ 2000) {t : Nat} (ht1 : 1 ≤ t) (ht : t ≤ 10) : ∃ r h', (∀ Q, WP Gm j_S_exchange 0 [some (.inr (.inl (some 1))), some (.inl (ii t)), none] [] h Q = Q r h') ∧ (∃ v, r = .inl (some (.inl v))) ∧ ST n B T h h' := by
  obtain ⟨⟨A, c, c1, c2, M⟩, C, V, sl⟩ := id L
  have S := A.1
  have hn := n8 S
  have w1 : (decide ((1 : Int32) ≤ ii t) && decide (ii t ≤ 10)) = true := wthn (a := 1) (b := 10) (by omega) (by omega) (by omega) (by omega) (by omega)
  obtain ⟨g, e1, A', F⟩ := loopR (fun Q k (g : Hp) => WP Gm j_S_exchange 22 [some (.inr (.inl (some 1))), some (.inl (ii t)), some (.inl (ii k))] [] g Q) (fun _ g => AI n g ∧ Fr (fun a k => wT a k ∨ (a = 77 ∧ k = 5)) (fun a k => a = 77 ∧ 1 ≤ k) nW h g) t
    (fun k g hk hI => by
      obtain ⟨Ag, Fg⟩ := hI
      obtain ⟨Sg, ⟨Hg, c, R, I1, I2⟩, -⟩ := id Ag
      have hcc := R.1
      obtain ⟨g', r1, r2, r3, r4, r5, r6⟩ := q_renew Sg R I1 I2 Hg
      refine ⟨g', fun Q => ?_, Ag.out r2 (fun a k w => by unfold wT at w; omega) (fun a k w => w.1) r3 ⟨Hg.fr fun k => r2.1 _ _ (by unfold wT; omega), 174 - c, r4, r5, by rw [show 174 - (174 - c) = c by omega]; exact r6⟩, Fg.trans r2⟩
      rw [e_S_exchange_22]
      simp only [↓e_S_exchange_0, ↓e_S_exchange_1, ↓e_S_exchange_2, ↓e_S_exchange_4, ↓e_S_exchange_7, ↓e_S_exchange_10, ↓e_S_exchange_20, ↓e_S_exchange_21, ↓e_S_exchange_23, ↓e_S_exchange_24, ↓e_S_exchange_27, ↓e_S_exchange_28, ↓e_S_exchange_31, ↓e_S_exchange_34, ↓e_S_exchange_37, ↓e_S_exchange_40, ↓e_S_exchange_41, ↓e_S_exchange_44, ↓e_S_exchange_47, not_true_eq_false, not_false_eq_true, one0, true_or, or_true, eq_self, bI_z, bI_nz, bI_o, b_ft, bI_1, bI_0, ↓kC_l, ↓kC_r, Option.toList_some, Option.toList_none, List.cons_append, List.nil_append, s1_0, s1_1i, s1_1r, s1_1w, s1_1n, s1_s, s2_0, s2_1i, s2_1r, s2_1w, s2_1n, s2_s, gI_sI, gI_sR, gI_sL, gI_sD, gR_sI, gR_sR, gR_sL, gR_sD, gL_sI, gL_sR, gL_sL, gL_sD, gD_sI, gD_sR, gD_sL, gD_sD, isK_sI, isK_sR, isK_sL, isK_sD, inL_sI, inL_sR, inL_sL, inL_sD, nx_sI, nx_sR, nx_sL, nx_sD, kd_sI, kd_sR, kd_sL, kd_sD, ln_sI, ln_sR, ln_sL, ln_sD, ↓reduceIte, c8_n, c8_1, c8_2, c8_3, c8_4, Nat.reduceAdd, k_s Sg, k_land Sg, k_nodes Sg, k_hear Sg, k_routes Sg, k_traffic Sg, k_market Sg, g_cnt Sg, r_land Sg, r_routes Sg, r_traffic Sg, r_market Sg, r_nodes Sg, r_hear Sg, r_rland Sg, r_tland Sg, r_troutes Sg, lle_f (show t < 2147483648 by omega) hk, r1, ii_succ]) t 0 h (by omega) ⟨A, Fr.refl h⟩
  obtain ⟨v, hv⟩ := q_pairsWithRoute A'.1
  refine ⟨.inl (some (.inl v)), g, fun Q => ?_, ⟨_, rfl⟩, ST.fr L hB F (fun a k w => by unfold wT at w; omega) (fun a k w => by omega) A'⟩
  simp only [↓e_S_exchange_0, ↓e_S_exchange_1, ↓e_S_exchange_2, ↓e_S_exchange_4, ↓e_S_exchange_7, ↓e_S_exchange_10, ↓e_S_exchange_20, ↓e_S_exchange_21, ↓e_S_exchange_23, ↓e_S_exchange_24, ↓e_S_exchange_27, ↓e_S_exchange_28, ↓e_S_exchange_31, ↓e_S_exchange_34, ↓e_S_exchange_37, ↓e_S_exchange_40, ↓e_S_exchange_41, ↓e_S_exchange_44, ↓e_S_exchange_47, not_true_eq_false, not_false_eq_true, one0, true_or, or_true, eq_self, bI_z, bI_nz, bI_o, b_ft, bI_1, bI_0, ↓kC_l, ↓kC_r, Option.toList_some, Option.toList_none, List.cons_append, List.nil_append, s1_0, s1_1i, s1_1r, s1_1w, s1_1n, s1_s, s2_0, s2_1i, s2_1r, s2_1w, s2_1n, s2_s, gI_sI, gI_sR, gI_sL, gI_sD, gR_sI, gR_sR, gR_sL, gR_sD, gL_sI, gL_sR, gL_sL, gL_sD, gD_sI, gD_sR, gD_sL, gD_sD, isK_sI, isK_sR, isK_sL, isK_sD, inL_sI, inL_sR, inL_sL, inL_sD, nx_sI, nx_sR, nx_sL, nx_sD, kd_sI, kd_sR, kd_sL, kd_sD, ln_sI, ln_sR, ln_sL, ln_sD, ↓reduceIte, c8_n, c8_1, c8_2, c8_3, c8_4, Nat.reduceAdd, k_s S, k_land S, k_nodes S, k_hear S, k_routes S, k_traffic S, k_market S, g_cnt S, r_land S, r_routes S, r_traffic S, r_market S, r_nodes S, r_hear S, r_rland S, r_tland S, r_troutes S, q_isWithin, w1, Bool.true_eq_false]
  refine (e1 Q).trans ?_
  rw [e_S_exchange_22]
  simp only [↓e_S_exchange_0, ↓e_S_exchange_1, ↓e_S_exchange_2, ↓e_S_exchange_4, ↓e_S_exchange_7, ↓e_S_exchange_10, ↓e_S_exchange_20, ↓e_S_exchange_21, ↓e_S_exchange_23, ↓e_S_exchange_24, ↓e_S_exchange_27, ↓e_S_exchange_28, ↓e_S_exchange_31, ↓e_S_exchange_34, ↓e_S_exchange_37, ↓e_S_exchange_40, ↓e_S_exchange_41, ↓e_S_exchange_44, ↓e_S_exchange_47, not_true_eq_false, not_false_eq_true, one0, true_or, or_true, eq_self, bI_z, bI_nz, bI_o, b_ft, bI_1, bI_0, ↓kC_l, ↓kC_r, Option.toList_some, Option.toList_none, List.cons_append, List.nil_append, s1_0, s1_1i, s1_1r, s1_1w, s1_1n, s1_s, s2_0, s2_1i, s2_1r, s2_1w, s2_1n, s2_s, gI_sI, gI_sR, gI_sL, gI_sD, gR_sI, gR_sR, gR_sL, gR_sD, gL_sI, gL_sR, gL_sL, gL_sD, gD_sI, gD_sR, gD_sL, gD_sD, isK_sI, isK_sR, isK_sL, isK_sD, inL_sI, inL_sR, inL_sL, inL_sD, nx_sI, nx_sR, nx_sL, nx_sD, kd_sI, kd_sR, kd_sL, kd_sD, ln_sI, ln_sR, ln_sL, ln_sD, ↓reduceIte, c8_n, c8_1, c8_2, c8_3, c8_4, Nat.reduceAdd, k_s A'.1, k_land A'.1, k_nodes A'.1, k_hear A'.1, k_routes A'.1, k_traffic A'.1, k_market A'.1, g_cnt A'.1, r_land A'.1, r_routes A'.1, r_traffic A'.1, r_market A'.1, r_nodes A'.1, r_hear A'.1, r_rland A'.1, r_tland A'.1, r_troutes A'.1, lle_t (show t < 2147483648 by omega), hv]
theorem CV.step {h' : Hp} (C : CV n B h) (G : CG n h h') (hB : B ≤ 2000) : CV n (B + 1) h' ∧ MC n h h' := by
  have key : ∀ x, x < n → ∃ a b p r a' b' p' r', gI h (5 + 9 * x) 10 = ii a ∧ gI h (5 + 9 * x) 11 = ii b ∧ gI h (5 + 9 * x) 12 = ii p ∧ gI h (5 + 9 * x) 13 = ii r ∧ gI h' (5 + 9 * x) 10 = ii a' ∧ gI h' (5 + 9 * x) 11 = ii b' ∧ gI h' (5 + 9 * x) 12 = ii p' ∧ gI h' (5 + 9 * x) 13 = ii r' ∧ a ≤ a' ∧ b ≤ b' ∧ p ≤ p' ∧ r ≤ r' ∧ a' ≤ B + 1 ∧ b' ≤ B + 1 ∧ p' ≤ 31 * (B + 1) ∧ r' ≤ B + 1 := by
    intro x hx
    obtain ⟨a, b, p, r, q1, q2, q3, q4, q5, q6, q7, q8⟩ := C x hx
    obtain ⟨g1, g2, g3⟩ := G x hx
    have d1 : ∃ a', gI h' (5 + 9 * x) 10 = ii a' ∧ a ≤ a' ∧ a' ≤ a + 1 := by
      rcases g1 with g | g
      · exact ⟨a, by rw [g]; exact q1, by omega, by omega⟩
      · exact ⟨a + 1, by rw [g, q1, ii_succ], by omega, by omega⟩
    have d2 : ∃ b', gI h' (5 + 9 * x) 11 = ii b' ∧ b ≤ b' ∧ b' ≤ b + 1 := by
      rcases g2 with g | g
      · exact ⟨b, by rw [g]; exact q2, by omega, by omega⟩
      · exact ⟨b + 1, by rw [g, q2, ii_succ], by omega, by omega⟩
    have d3 : ∃ p' r', gI h' (5 + 9 * x) 12 = ii p' ∧ gI h' (5 + 9 * x) 13 = ii r' ∧ p ≤ p' ∧ p' ≤ p + 31 ∧ r ≤ r' ∧ r' ≤ r + 1 := by
      rcases g3 with ⟨g, g'⟩ | ⟨y, y1, g, g'⟩
      · exact ⟨p, r, by rw [g]; exact q3, by rw [g']; exact q4, by omega, by omega, by omega, by omega⟩
      · refine ⟨p + y, r + 1, ?_, by rw [g', q4, ii_succ], by omega, by omega, by omega, by omega⟩
        rw [g, q3]
        unfold ii
        rw [Int32.ofNat_add]
    obtain ⟨a', a1, a2, a3⟩ := d1
    obtain ⟨b', b1, b2, b3⟩ := d2
    obtain ⟨p', r', p1, r1, p2, p3, r2, r3⟩ := d3
    exact ⟨a, b, p, r, a', b', p', r', q1, q2, q3, q4, a1, b1, p1, r1, a2, b2, p2, r2, by omega, by omega, by omega, by omega⟩
  refine ⟨fun x hx => ?_, fun x f hx h1 h2 => ?_⟩
  · obtain ⟨a, b, p, r, a', b', p', r', q1, q2, q3, q4, q5, q6, q7, q8, q9, q10, q11, q12, q13⟩ := key x hx
    exact ⟨a', b', p', r', q5, q6, q7, q8, q13⟩
  · obtain ⟨a, b, p, r, a', b', p', r', q1, q2, q3, q4, q5, q6, q7, q8, q9, q10, q11, q12, q13, q14, q15, q16⟩ := key x hx
    have : f = 10 ∨ f = 11 ∨ f = 12 ∨ f = 13 := by omega
    rcases this with rfl | rfl | rfl | rfl
    · exact ⟨a, a', q1, q5, q9, by omega⟩
    · exact ⟨b, b', q2, q6, q10, by omega⟩
    · exact ⟨p, p', q3, q7, q11, by omega⟩
    · exact ⟨r, r', q4, q8, q12, by omega⟩
theorem MC.trans {h1 h2 h3 : Hp} (x : MC n h1 h2) (y : MC n h2 h3) : MC n h1 h3 := by
  intro z f hz p q
  obtain ⟨a, b, a1, a2, a3, a4⟩ := x z f hz p q
  obtain ⟨c, d, c1, c2, c3, c4⟩ := y z f hz p q
  have e := a2.symm.trans c1
  rw [ii_inj a4 (by omega)] at e
  exact ⟨a, d, a1, c2, by omega, c4⟩
end S2
