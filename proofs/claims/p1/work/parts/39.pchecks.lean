/-! pchecks: the country's checks; what an exception leaves as it was -/
section CK
variable {n : Nat} {h : Hp}
/-- below the next id nothing is changed by a new object -/
def Ex (h h' : Hp) : Prop := (∀ a k, a < nx h → gI h' a k = gI h a k ∧ gR h' a k = gR h a k ∧ gL h' a k = gL h a k) ∧ (∀ a, a < nx h → kd h' a = kd h a ∧ ln h' a = ln h a) ∧ nx h ≤ nx h'
theorem Ex.hN (h : Hp) (c m s : Nat) : Ex h (hN h c m s) := ⟨fun a k ha => by
  rw [gI_hN, gR_hN, gL_hN, if_neg (by omega), if_neg (by omega), if_neg (by omega)]
  exact ⟨rfl, rfl, rfl⟩, fun a ha => by
  rw [kd_hN, ln_hN, if_neg (by omega), if_neg (by omega)]
  exact ⟨rfl, rfl⟩, by rw [nx_hN]; omega⟩
theorem AI.ex {h' : Hp} (A : AI n h) (E : Ex h h') : AI n h' := by
  obtain ⟨S, ⟨H, c, R, I1, I2⟩, N, ⟨lk, l1, l2⟩, D⟩ := id A
  have hn := n8 S
  have hnx : 121 ≤ nx h := S.1.1
  have hcc := R.1
  have eI : ∀ a k, a < 121 → gI h' a k = gI h a k := fun a k ha => (E.1 a k (by omega)).1
  have eR : ∀ a k, a < 121 → gR h' a k = gR h a k := fun a k ha => (E.1 a k (by omega)).2.1
  have eL : ∀ a k, a < 121 → gL h' a k = gL h a k := fun a k ha => (E.1 a k (by omega)).2.2
  have eM : ∀ i k, i < 8 → mb h' i k = mb h i k := fun i k hi => by unfold mb; rw [eL _ _ (by omega)]
  refine ⟨?_, ⟨H.fr fun k => eI _ _ (by omega), c, R.fr fun k => eR _ _ (by omega), I1.fr (fun a b ha hb => eI _ _ (by omega)) (fun a b ha hb => eI _ _ (by omega)), I2.fr (fun a b ha hb => eI _ _ (by omega)) (fun a b ha hb => eI _ _ (by omega))⟩,
    fun j hj => (N j hj).fr hj (fun a k p q => eI _ _ (by omega)) (fun x hx => eI _ _ (by omega)) (eI _ _ (by omega)) (fun k => eR _ _ (by omega)) (fun k q => eI _ _ (by omega)) (fun k => eL _ _ (by omega)),
    ⟨lk, l1, by rw [eI _ _ (by omega)]; exact l2⟩, D.fr (eI _ _ (by omega)) (fun j k hj => eL _ _ (by omega))⟩
  obtain ⟨s1, s2, s3, s4, s5, s6, s7, s8, s9, s10⟩ := S
  refine ⟨⟨Nat.le_trans s1.1 E.2.2, fun a p q => by rw [(E.2.1 a (by omega)).1, (E.2.1 a (by omega)).2]; exact s1.2 a p q⟩, ⟨s2.1, by rw [eI 2 2 (by omega)]; exact s2.2⟩, ?_, ?_, fun j hj => ?_, fun j hj k hk => ?_, ?_, ?_, fun j hj => ?_, ?_⟩
  · rw [eR _ _ (by omega), eR _ _ (by omega), eR _ _ (by omega), eR _ _ (by omega)]; exact s3
  · rw [eR _ _ (by omega), eR _ _ (by omega)]; exact s4
  · rw [eR _ _ (by omega), eR _ _ (by omega), eR _ _ (by omega), eR _ _ (by omega), eR _ _ (by omega)]; exact s5 j hj
  · rw [eR _ _ (by omega)]; exact s6 j hj k hk
  · rw [eR _ _ (by omega), eR _ _ (by omega), eR _ _ (by omega)]; exact s7
  · rw [eR _ _ (by omega), eR _ _ (by omega), eR _ _ (by omega), eR _ _ (by omega), eR _ _ (by omega)]; exact s8
  · rw [eR _ _ (by omega), eR _ _ (by omega), eR _ _ (by omega), eR _ _ (by omega)]; exact s9 j hj
  · rw [eR _ _ (by omega), eR _ _ (by omega), eR _ _ (by omega), eR _ _ (by omega)]; exact s10
theorem q_checkNode (Q : MRes → Hp → Prop) (S : Str n h) {i : Nat} (hi : i < n) : WP Gm j_S_checkNode 0 [some (.inr (.inl (some 1))), some (.inl (ii i))] [] h Q = Q (.inl none) h := by
  have hi8 := lt_8 (n8 S) hi
  simp only [↓e_S_checkNode_0, ↓e_S_checkNode_1, ↓e_S_checkNode_4, ↓e_S_checkNode_5, ↓e_S_checkNode_8, ↓e_S_checkNode_11, ↓e_S_checkNode_22, not_true_eq_false, not_false_eq_true, one0, true_or, or_true, eq_self, bI_z, bI_nz, bI_o, b_ft, bI_1, bI_0, ↓kC_l, ↓kC_r, Option.toList_some, Option.toList_none, List.cons_append, List.nil_append, s1_0, s1_1i, s1_1r, s1_1w, s1_1n, s1_s, s2_0, s2_1i, s2_1r, s2_1w, s2_1n, s2_s, gI_sI, gI_sR, gI_sL, gI_sD, gR_sI, gR_sR, gR_sL, gR_sD, gL_sI, gL_sR, gL_sL, gL_sD, gD_sI, gD_sR, gD_sL, gD_sD, isK_sI, isK_sR, isK_sL, isK_sD, inL_sI, inL_sR, inL_sL, inL_sD, nx_sI, nx_sR, nx_sL, nx_sD, kd_sI, kd_sR, kd_sL, kd_sD, ln_sI, ln_sR, ln_sL, ln_sD, ↓reduceIte, c8_n, c8_1, c8_2, c8_3, c8_4, Nat.reduceAdd, k_s S, k_land S, k_nodes S, k_hear S, k_routes S, k_traffic S, k_market S, g_cnt S, r_land S, r_routes S, r_traffic S, r_market S, r_nodes S, r_hear S, r_rland S, r_tland S, r_troutes S, q_isNode _ S, isNode_ii S hi8, hi, decide_true]
theorem q_checkPair (Q : MRes → Hp → Prop) (S : Str n h) {i j : Nat} (hi : i < n) (hj : j < n) (hij : i ≠ j) : WP Gm j_S_checkPair 0 [some (.inr (.inl (some 1))), some (.inl (ii i)), some (.inl (ii j))] [] h Q = Q (.inl none) h := by
  have hn := n8 S
  have hne : (ii i = ii j) = False := by rw [ii_inj (by omega) (by omega)]; exact eq_false hij
  simp only [↓e_S_checkPair_0, ↓e_S_checkPair_1, ↓e_S_checkPair_2, ↓e_S_checkPair_5, ↓e_S_checkPair_6, ↓e_S_checkPair_7, ↓e_S_checkPair_10, ↓e_S_checkPair_11, ↓e_S_checkPair_12, ↓e_S_checkPair_15, ↓e_S_checkPair_26, not_true_eq_false, not_false_eq_true, one0, true_or, or_true, eq_self, bI_z, bI_nz, bI_o, b_ft, bI_1, bI_0, ↓kC_l, ↓kC_r, Option.toList_some, Option.toList_none, List.cons_append, List.nil_append, s1_0, s1_1i, s1_1r, s1_1w, s1_1n, s1_s, s2_0, s2_1i, s2_1r, s2_1w, s2_1n, s2_s, gI_sI, gI_sR, gI_sL, gI_sD, gR_sI, gR_sR, gR_sL, gR_sD, gL_sI, gL_sR, gL_sL, gL_sD, gD_sI, gD_sR, gD_sL, gD_sD, isK_sI, isK_sR, isK_sL, isK_sD, inL_sI, inL_sR, inL_sL, inL_sD, nx_sI, nx_sR, nx_sL, nx_sD, kd_sI, kd_sR, kd_sL, kd_sD, ln_sI, ln_sR, ln_sL, ln_sD, ↓reduceIte, c8_n, c8_1, c8_2, c8_3, c8_4, Nat.reduceAdd, k_s S, k_land S, k_nodes S, k_hear S, k_routes S, k_traffic S, k_market S, g_cnt S, r_land S, r_routes S, r_traffic S, r_market S, r_nodes S, r_hear S, r_rland S, r_tland S, r_troutes S, q_checkNode _ S hi, q_checkNode _ S hj, hne]
theorem q_checkSilent (Q : MRes → Hp → Prop) (S : Str n h) {i : Nat} (hi : i < 8) (hr : okR cM sM h 1 6 = true) : WP Gm j_S_checkSilent 0 [some (.inr (.inl (some 1))), some (.inl (ii i))] [] h Q = if 0 < gI h (5 + 9 * i) 7 then Q (.inr 1) (hN h kc_IllegalStateException 0 6) else Q (.inl none) h := by
  simp only [↓e_S_checkSilent_0, ↓e_S_checkSilent_1, ↓e_S_checkSilent_4, ↓e_S_checkSilent_7, ↓e_S_checkSilent_8, ↓e_S_checkSilent_9, ↓e_S_checkSilent_12, ↓e_S_checkSilent_15, ↓e_S_checkSilent_26, not_true_eq_false, not_false_eq_true, one0, true_or, or_true, eq_self, bI_z, bI_nz, bI_o, b_ft, bI_1, bI_0, ↓kC_l, ↓kC_r, Option.toList_some, Option.toList_none, List.cons_append, List.nil_append, s1_0, s1_1i, s1_1r, s1_1w, s1_1n, s1_s, s2_0, s2_1i, s2_1r, s2_1w, s2_1n, s2_s, gI_sI, gI_sR, gI_sL, gI_sD, gR_sI, gR_sR, gR_sL, gR_sD, gL_sI, gL_sR, gL_sL, gL_sD, gD_sI, gD_sR, gD_sL, gD_sD, isK_sI, isK_sR, isK_sL, isK_sD, inL_sI, inL_sR, inL_sL, inL_sD, nx_sI, nx_sR, nx_sL, nx_sD, kd_sI, kd_sR, kd_sL, kd_sD, ln_sI, ln_sR, ln_sL, ln_sD, ↓reduceIte, c8_n, c8_1, c8_2, c8_3, c8_4, Nat.reduceAdd, k_s S, k_land S, k_nodes S, k_hear S, k_routes S, k_traffic S, k_market S, g_cnt S, r_land S, r_routes S, r_traffic S, r_market S, r_nodes S, r_hear S, r_rland S, r_tland S, r_troutes S, l_nodes S hi, l_hear S hi, r_node S hi, r_queue S hi, r_set S hi, r_frames S hi, r_bits S hi, k_node S hi, k_queue S hi, k_frames S hi, k_set S hi, k_bits S hi, ii_nat (lt31 hi), q_isSending _ S hi, hr]
  by_cases h1 : 0 < gI h (5 + 9 * i) 7
  · rw [if_pos h1, decide_eq_true h1]; rfl
  · rw [if_neg h1, decide_eq_false h1]; rfl
theorem q_isPlace (Q : MRes → Hp → Prop) (x y : Int32) : WP Gm j_S_isPlace 0 [some (.inl x), some (.inl y)] [] h Q = Q (.inl (some (.inl (bI ((decide (0 ≤ x) && decide (x ≤ 29)) && (decide (0 ≤ y) && decide (y ≤ 29))))))) h := by
  simp only [↓e_S_isPlace_0, ↓e_S_isPlace_1, ↓e_S_isPlace_2, ↓e_S_isPlace_4, ↓e_S_isPlace_7, ↓e_S_isPlace_10, ↓e_S_isPlace_11, ↓e_S_isPlace_12, ↓e_S_isPlace_14, ↓e_S_isPlace_17, ↓e_S_isPlace_20, ↓e_S_isPlace_21, ↓e_S_isPlace_24, ↓e_S_isPlace_25, not_true_eq_false, not_false_eq_true, one0, true_or, or_true, eq_self, bI_z, bI_nz, bI_o, b_ft, bI_1, bI_0, ↓kC_l, ↓kC_r, Option.toList_some, Option.toList_none, List.cons_append, List.nil_append, s1_0, s1_1i, s1_1r, s1_1w, s1_1n, s1_s, s2_0, s2_1i, s2_1r, s2_1w, s2_1n, s2_s, gI_sI, gI_sR, gI_sL, gI_sD, gR_sI, gR_sR, gR_sL, gR_sD, gL_sI, gL_sR, gL_sL, gL_sD, gD_sI, gD_sR, gD_sL, gD_sD, isK_sI, isK_sR, isK_sL, isK_sD, inL_sI, inL_sR, inL_sL, inL_sD, nx_sI, nx_sR, nx_sL, nx_sD, kd_sI, kd_sR, kd_sL, kd_sD, ln_sI, ln_sR, ln_sL, ln_sD, ↓reduceIte, c8_n, c8_1, c8_2, c8_3, c8_4, Nat.reduceAdd, q_isWithin]
  cases decide (0 ≤ x) && decide (x ≤ 29) <;> cases decide (0 ≤ y) && decide (y ≤ 29) <;> rfl
theorem q_isReach (Q : MRes → Hp → Prop) (x : Int32) : WP Gm j_S_isReach 0 [some (.inl x)] [] h Q = Q (.inl (some (.inl (bI (decide (1 ≤ x) && decide (x ≤ 42)))))) h := by
  simp only [↓e_S_isReach_0, ↓e_S_isReach_1, ↓e_S_isReach_2, ↓e_S_isReach_4, ↓e_S_isReach_7, not_true_eq_false, not_false_eq_true, one0, true_or, or_true, eq_self, bI_z, bI_nz, bI_o, b_ft, bI_1, bI_0, ↓kC_l, ↓kC_r, Option.toList_some, Option.toList_none, List.cons_append, List.nil_append, s1_0, s1_1i, s1_1r, s1_1w, s1_1n, s1_s, s2_0, s2_1i, s2_1r, s2_1w, s2_1n, s2_s, gI_sI, gI_sR, gI_sL, gI_sD, gR_sI, gR_sR, gR_sL, gR_sD, gL_sI, gL_sR, gL_sL, gL_sD, gD_sI, gD_sR, gD_sL, gD_sD, isK_sI, isK_sR, isK_sL, isK_sD, inL_sI, inL_sR, inL_sL, inL_sD, nx_sI, nx_sR, nx_sL, nx_sD, kd_sI, kd_sR, kd_sL, kd_sD, ln_sI, ln_sR, ln_sL, ln_sD, ↓reduceIte, c8_n, c8_1, c8_2, c8_3, c8_4, Nat.reduceAdd, q_isWithin]
end CK
