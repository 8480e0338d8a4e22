/-! plaw5: node, exchange; what lies behind the country leaves it as it is -/
section LB
variable {n B T : Nat} {h h' : Hp}
theorem AI.up (A : AI n h) (E : ∀ a k, a < 121 → gI h' a k = gI h a k ∧ gR h' a k = gR h a k ∧ gL h' a k = gL h a k) (ek : ∀ a, a < 121 → kd h' a = kd h a ∧ ln h' a = ln h a) (hx : 121 ≤ nx h') : AI n h' := by
  obtain ⟨S, ⟨H, c, R, I1, I2⟩, N, ⟨lk, l1, l2⟩, D⟩ := id A
  have hn := n8 S
  have hcc := R.1
  have eI : ∀ a k, a < 121 → gI h' a k = gI h a k := fun a k ha => (E a k ha).1
  have eR : ∀ a k, a < 121 → gR h' a k = gR h a k := fun a k ha => (E a k ha).2.1
  have eL : ∀ a k, a < 121 → gL h' a k = gL h a k := fun a k ha => (E a k ha).2.2
  refine ⟨?_, ⟨H.fr fun k => eI _ _ (by omega), c, R.fr fun k => eR _ _ (by omega), I1.fr (fun a b ha hb => eI _ _ (by omega)) (fun a b ha hb => eI _ _ (by omega)), I2.fr (fun a b ha hb => eI _ _ (by omega)) (fun a b ha hb => eI _ _ (by omega))⟩,
    fun j hj => (N j hj).fr hj (fun a k p q => eI _ _ (by omega)) (fun x hx => eI _ _ (by omega)) (eI _ _ (by omega)) (fun k => eR _ _ (by omega)) (fun k q => eI _ _ (by omega)) (fun k => eL _ _ (by omega)),
    ⟨lk, l1, by rw [eI _ _ (by omega)]; exact l2⟩, D.fr (eI _ _ (by omega)) (fun j k hj => eL _ _ (by omega))⟩
  obtain ⟨s1, s2, s3, s4, s5, s6, s7, s8, s9, s10⟩ := S
  refine ⟨⟨hx, fun a p q => by rw [(ek a q).1, (ek a q).2]; exact s1.2 a p q⟩, ⟨s2.1, by rw [eI 2 2 (by omega)]; exact s2.2⟩, ?_, ?_, fun j hj => ?_, fun j hj k hk => ?_, ?_, ?_, fun j hj => ?_, ?_⟩
  · rw [eR _ _ (by omega), eR _ _ (by omega), eR _ _ (by omega), eR _ _ (by omega)]; exact s3
  · rw [eR _ _ (by omega), eR _ _ (by omega)]; exact s4
  · rw [eR _ _ (by omega), eR _ _ (by omega), eR _ _ (by omega), eR _ _ (by omega), eR _ _ (by omega)]; exact s5 j hj
  · rw [eR _ _ (by omega)]; exact s6 j hj k hk
  · rw [eR _ _ (by omega), eR _ _ (by omega), eR _ _ (by omega)]; exact s7
  · rw [eR _ _ (by omega), eR _ _ (by omega), eR _ _ (by omega), eR _ _ (by omega), eR _ _ (by omega)]; exact s8
  · rw [eR _ _ (by omega), eR _ _ (by omega), eR _ _ (by omega), eR _ _ (by omega)]; exact s9 j hj
  · rw [eR _ _ (by omega), eR _ _ (by omega), eR _ _ (by omega), eR _ _ (by omega)]; exact s10
theorem LV.up (L : LV n B T h) (E : ∀ a k, a < 121 → gI h' a k = gI h a k ∧ gR h' a k = gR h a k ∧ gL h' a k = gL h a k) (ek : ∀ a, a < 121 → kd h' a = kd h a ∧ ln h' a = ln h a) (hx : 121 ≤ nx h') : LV n B T h' := by
  obtain ⟨⟨A, c, c1, c2, M⟩, C, V, sl⟩ := L
  have hn := n8 A.1
  refine ⟨⟨A.up E ek hx, c, c1, by rw [(E 115 5 (by omega)).1]; exact c2, M.of fun a k p q => (E a k q).1⟩, C.fr fun x f hx _ _ => (E _ _ (by omega)).1, fun x hx => ?_, by rw [(E 114 2 (by omega)).1]; exact sl⟩
  obtain ⟨s, s1, s2⟩ := V x hx
  exact ⟨s, s1, by rw [(E _ _ (by omega)).1]; exact s2⟩
theorem q_node (A : AI n h) (hn : n < 8) (W : FN n h) {x y r : Nat} (hx : x < 30) (hy : y < 30) (hr1 : 1 ≤ r) (hr : r ≤ 42) {ch : Int32} (hc : ch = 0 ∨ ch = 1) : ∃ h', (∀ Q, WP Gm j_S_node 0 [some (.inr (.inl (some 1))), some (.inl (ii x)), some (.inl (ii y)), some (.inl (ii r)), some (.inl ch)] [] h Q = Q (.inl (some (.inl (ii n)))) h') ∧ AI (n + 1) h' ∧ FN (n + 1) h' ∧ Fr (fun a k => a = 4 ∨ (a = 2 ∧ k = 2) ∨ (a = 5 + 9 * n ∧ k ≤ 3)) nW nW h h' := by
  have S := A.1
  have w1 : (decide ((0 : Int32) ≤ ii x) && decide (ii x ≤ 29)) = true := wthn (a := 0) (b := 29) (by omega) (by omega) (by omega) (by omega) (by omega)
  have w2 : (decide ((0 : Int32) ≤ ii y) && decide (ii y ≤ 29)) = true := wthn (a := 0) (b := 29) (by omega) (by omega) (by omega) (by omega) (by omega)
  have w3 : (decide ((1 : Int32) ≤ ii r) && decide (ii r ≤ 42)) = true := wthn (a := 1) (b := 42) (by omega) (by omega) (by omega) (by omega) (by omega)
  have e8 : (ii n < (8 : Int32)) = True := by rw [show (8 : Int32) = ii 8 from rfl, ii_lt (by omega) (by omega)]; exact eq_true hn
  obtain ⟨h', r1, r2, r3, r4⟩ := q_landAdd A hn W (ii x) (ii y) (ii r) hc
  refine ⟨h', fun Q => ?_, r2, r3, r4⟩
  simp only [↓e_S_node_0, ↓e_S_node_1, ↓e_S_node_2, ↓e_S_node_5, ↓e_S_node_8, ↓e_S_node_9, ↓e_S_node_12, ↓e_S_node_15, ↓e_S_node_25, ↓e_S_node_26, ↓e_S_node_29, ↓e_S_node_32, ↓e_S_node_34, ↓e_S_node_37, ↓e_S_node_47, ↓e_S_node_48, ↓e_S_node_51, ↓e_S_node_52, ↓e_S_node_53, ↓e_S_node_54, ↓e_S_node_56, ↓e_S_node_59, not_true_eq_false, not_false_eq_true, one0, true_or, or_true, eq_self, bI_z, bI_nz, bI_o, b_ft, bI_1, bI_0, ↓kC_l, ↓kC_r, Option.toList_some, Option.toList_none, List.cons_append, List.nil_append, s1_0, s1_1i, s1_1r, s1_1w, s1_1n, s1_s, s2_0, s2_1i, s2_1r, s2_1w, s2_1n, s2_s, gI_sI, gI_sR, gI_sL, gI_sD, gR_sI, gR_sR, gR_sL, gR_sD, gL_sI, gL_sR, gL_sL, gL_sD, gD_sI, gD_sR, gD_sL, gD_sD, isK_sI, isK_sR, isK_sL, isK_sD, inL_sI, inL_sR, inL_sL, inL_sD, nx_sI, nx_sR, nx_sL, nx_sD, kd_sI, kd_sR, kd_sL, kd_sD, ln_sI, ln_sR, ln_sL, ln_sD, ↓reduceIte, c8_n, c8_1, c8_2, c8_3, c8_4, Nat.reduceAdd, k_s S, k_land S, k_nodes S, k_hear S, k_routes S, k_traffic S, k_market S, g_cnt S, r_land S, r_routes S, r_traffic S, r_market S, r_nodes S, r_hear S, r_rland S, r_tland S, r_troutes S, q_isPlace, q_isReach, w1, w2, w3, Bool.and_self, Bool.true_eq_false, e8, r1]
theorem q_exchange (L : LV n B T h) (hB : B ≤ 2000) {t : Nat} (ht1 : 1 ≤ t) (ht : t ≤ 10) : ∃ v h', (∀ Q, WP Gm j_S_exchange 0 [some (.inr (.inl (some 1))), some (.inl (ii t)), none] [] h Q = Q (.inl (some (.inl v))) h') ∧ ST n B T h h' := by
  obtain ⟨⟨A, c, c1, c2, M⟩, C, V, sl⟩ := id L
  have S := A.1
  have hn := n8 S
  have w1 : (decide ((1 : Int32) ≤ ii t) && decide (ii t ≤ 10)) = true := wthn (a := 1) (b := 10) (by omega) (by omega) (by omega) (by omega) (by omega)
  obtain ⟨g, e1, A', F⟩ := loopR (fun Q k (g : Hp) => WP Gm j_S_exchange 22 [some (.inr (.inl (some 1))), some (.inl (ii t)), some (.inl (ii k))] [] g Q) (fun _ g => AI n g ∧ Fr (fun a k => wT a k ∨ (a = 77 ∧ k = 5)) (fun a k => a = 77 ∧ 1 ≤ k) nW h g) t
    (fun k g hk hI => by
      obtain ⟨Ag, Fg⟩ := hI
      obtain ⟨Sg, ⟨Hg, c, R, I1, I2⟩, -⟩ := id Ag
      have hcc := R.1
      obtain ⟨g', r1, r2, r3, r4, r5, r6⟩ := q_renew Sg R I1 I2 Hg
      refine ⟨g', fun Q => ?_, Ag.out r2 (fun a k w => by unfold wT at w; omega) (fun a k w => w.1) r3 ⟨Hg.fr fun k => r2.1 _ _ (by unfold wT; omega), 174 - c, r4, r5, by rw [show 174 - (174 - c) = c by omega]; exact r6⟩, Fg.trans r2⟩
      rw [e_S_exchange_22]
      simp only [↓e_S_exchange_0, ↓e_S_exchange_1, ↓e_S_exchange_2, ↓e_S_exchange_4, ↓e_S_exchange_7, ↓e_S_exchange_10, ↓e_S_exchange_20, ↓e_S_exchange_21, ↓e_S_exchange_23, ↓e_S_exchange_24, ↓e_S_exchange_27, ↓e_S_exchange_28, ↓e_S_exchange_31, ↓e_S_exchange_34, ↓e_S_exchange_37, ↓e_S_exchange_40, ↓e_S_exchange_41, ↓e_S_exchange_44, ↓e_S_exchange_47, not_true_eq_false, not_false_eq_true, one0, true_or, or_true, eq_self, bI_z, bI_nz, bI_o, b_ft, bI_1, bI_0, ↓kC_l, ↓kC_r, Option.toList_some, Option.toList_none, List.cons_append, List.nil_append, s1_0, s1_1i, s1_1r, s1_1w, s1_1n, s1_s, s2_0, s2_1i, s2_1r, s2_1w, s2_1n, s2_s, gI_sI, gI_sR, gI_sL, gI_sD, gR_sI, gR_sR, gR_sL, gR_sD, gL_sI, gL_sR, gL_sL, gL_sD, gD_sI, gD_sR, gD_sL, gD_sD, isK_sI, isK_sR, isK_sL, isK_sD, inL_sI, inL_sR, inL_sL, inL_sD, nx_sI, nx_sR, nx_sL, nx_sD, kd_sI, kd_sR, kd_sL, kd_sD, ln_sI, ln_sR, ln_sL, ln_sD, ↓reduceIte, c8_n, c8_1, c8_2, c8_3, c8_4, Nat.reduceAdd, k_s Sg, k_land Sg, k_nodes Sg, k_hear Sg, k_routes Sg, k_traffic Sg, k_market Sg, g_cnt Sg, r_land Sg, r_routes Sg, r_traffic Sg, r_market Sg, r_nodes Sg, r_hear Sg, r_rland Sg, r_tland Sg, r_troutes Sg, lle_f (show t < 2147483648 by omega) hk, r1, ii_succ]) t 0 h (by omega) ⟨A, Fr.refl h⟩
  obtain ⟨v, hv⟩ := q_pairsWithRoute A'.1
  refine ⟨v, g, fun Q => ?_, ST.fr L hB F (fun a k w => by unfold wT at w; omega) (fun a k w => by omega) A'⟩
  simp only [↓e_S_exchange_0, ↓e_S_exchange_1, ↓e_S_exchange_2, ↓e_S_exchange_4, ↓e_S_exchange_7, ↓e_S_exchange_10, ↓e_S_exchange_20, ↓e_S_exchange_21, ↓e_S_exchange_23, ↓e_S_exchange_24, ↓e_S_exchange_27, ↓e_S_exchange_28, ↓e_S_exchange_31, ↓e_S_exchange_34, ↓e_S_exchange_37, ↓e_S_exchange_40, ↓e_S_exchange_41, ↓e_S_exchange_44, ↓e_S_exchange_47, not_true_eq_false, not_false_eq_true, one0, true_or, or_true, eq_self, bI_z, bI_nz, bI_o, b_ft, bI_1, bI_0, ↓kC_l, ↓kC_r, Option.toList_some, Option.toList_none, List.cons_append, List.nil_append, s1_0, s1_1i, s1_1r, s1_1w, s1_1n, s1_s, s2_0, s2_1i, s2_1r, s2_1w, s2_1n, s2_s, gI_sI, gI_sR, gI_sL, gI_sD, gR_sI, gR_sR, gR_sL, gR_sD, gL_sI, gL_sR, gL_sL, gL_sD, gD_sI, gD_sR, gD_sL, gD_sD, isK_sI, isK_sR, isK_sL, isK_sD, inL_sI, inL_sR, inL_sL, inL_sD, nx_sI, nx_sR, nx_sL, nx_sD, kd_sI, kd_sR, kd_sL, kd_sD, ln_sI, ln_sR, ln_sL, ln_sD, ↓reduceIte, c8_n, c8_1, c8_2, c8_3, c8_4, Nat.reduceAdd, k_s S, k_land S, k_nodes S, k_hear S, k_routes S, k_traffic S, k_market S, g_cnt S, r_land S, r_routes S, r_traffic S, r_market S, r_nodes S, r_hear S, r_rland S, r_tland S, r_troutes S, q_isWithin, w1, Bool.true_eq_false]
  refine (e1 Q).trans ?_
  rw [e_S_exchange_22]
  simp only [↓e_S_exchange_0, ↓e_S_exchange_1, ↓e_S_exchange_2, ↓e_S_exchange_4, ↓e_S_exchange_7, ↓e_S_exchange_10, ↓e_S_exchange_20, ↓e_S_exchange_21, ↓e_S_exchange_23, ↓e_S_exchange_24, ↓e_S_exchange_27, ↓e_S_exchange_28, ↓e_S_exchange_31, ↓e_S_exchange_34, ↓e_S_exchange_37, ↓e_S_exchange_40, ↓e_S_exchange_41, ↓e_S_exchange_44, ↓e_S_exchange_47, not_true_eq_false, not_false_eq_true, one0, true_or, or_true, eq_self, bI_z, bI_nz, bI_o, b_ft, bI_1, bI_0, ↓kC_l, ↓kC_r, Option.toList_some, Option.toList_none, List.cons_append, List.nil_append, s1_0, s1_1i, s1_1r, s1_1w, s1_1n, s1_s, s2_0, s2_1i, s2_1r, s2_1w, s2_1n, s2_s, gI_sI, gI_sR, gI_sL, gI_sD, gR_sI, gR_sR, gR_sL, gR_sD, gL_sI, gL_sR, gL_sL, gL_sD, gD_sI, gD_sR, gD_sL, gD_sD, isK_sI, isK_sR, isK_sL, isK_sD, inL_sI, inL_sR, inL_sL, inL_sD, nx_sI, nx_sR, nx_sL, nx_sD, kd_sI, kd_sR, kd_sL, kd_sD, ln_sI, ln_sR, ln_sL, ln_sD, ↓reduceIte, c8_n, c8_1, c8_2, c8_3, c8_4, Nat.reduceAdd, k_s A'.1, k_land A'.1, k_nodes A'.1, k_hear A'.1, k_routes A'.1, k_traffic A'.1, k_market A'.1, g_cnt A'.1, r_land A'.1, r_routes A'.1, r_traffic A'.1, r_market A'.1, r_nodes A'.1, r_hear A'.1, r_rland A'.1, r_tland A'.1, r_troutes A'.1, lle_t (show t < 2147483648 by omega), hv]
theorem cnt_mono {f g : Nat → Bool} (hfg : ∀ i, f i = true → g i = true) : ∀ m : Nat, cnt f m ≤ cnt g m
  | 0 => Nat.le_refl _
  | m + 1 => by
    have := cnt_mono hfg m
    show cnt f m + (if f m = true then 1 else 0) ≤ cnt g m + (if g m = true then 1 else 0)
    by_cases e : f m = true
    · rw [if_pos e, if_pos (hfg m e)]; omega
    · rw [if_neg e]; omega
theorem sumN_mono {f g : Nat → Nat} : ∀ {m : Nat}, (∀ i, i < m → f i ≤ g i) → sumN f m ≤ sumN g m
  | 0, _ => Nat.le_refl _
  | m + 1, q => by
    have h1 := sumN_mono (f := f) (g := g) (m := m) (fun i hi => q i (by omega))
    have h2 := q m (by omega)
    show sumN f m + f m ≤ sumN g m + g m
    omega
theorem del_mono (A : AI n h) (A' : AI n h') (M : MD h h') : ∃ d e, gI h 114 4 = ii d ∧ gI h' 114 4 = ii e ∧ d ≤ e ∧ e < 2147483648 := by
  have hn := n8 A.1
  refine ⟨_, _, A.2.2.2.2, A'.2.2.2.2, sumN_mono fun i hi => cnt_mono (M i (by omega)) 512, ?_⟩
  have := sumN_le (f := fun i => cnt (mb h' i) 512) (b := 512) (m := n) (fun i _ => cnt_le)
  omega
theorem q_ofC (Q : MRes → Hp → Prop) (S : Str n h) {i w : Nat} (hi : i < n) (hw : w < 4) : WP Gm j_S_ofNode 0 [some (.inr (.inl (some 1))), some (.inl (ii i)), some (.inl (ii (9 + w))), none] [] h Q = Q (.inl (some (.inl (gI h (5 + 9 * i) (10 + w))))) h := by
  have : w = 0 ∨ w = 1 ∨ w = 2 ∨ w = 3 := by omega
  rcases this with rfl | rfl | rfl | rfl
  · exact q_of9 Q S hi
  · exact q_of10 Q S hi
  · exact q_of11 Q S hi
  · exact q_of12 Q S hi
theorem nine_ii (b : Nat) : (9 : Int32) + ii b = ii (9 + b) := ii_add 9 b
end LB
