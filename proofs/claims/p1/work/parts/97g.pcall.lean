/-! pcall: the country's calls with any arguments -/
def OKs (l : List Nat) (r : MRes) : Prop := (∃ v, r = .inl (some (.inl v))) ∨ ∃ E, E ∈ l ∧ r = .inr E
theorem OKs.v {l : List Nat} (v : Int32) : OKs l (.inl (some (.inl v))) := Or.inl ⟨v, rfl⟩
theorem OKs.e {l : List Nat} {E : Nat} (h : E ∈ l) : OKs l (.inr E) := Or.inr ⟨E, h, rfl⟩
theorem OKr.s {r : MRes} (h : OKr r) : OKs [0, 1, 2] r := by
  rcases h with w | ⟨E, h1, h2⟩
  · exact Or.inl w
  · refine Or.inr ⟨E, ?_, h2⟩
    have : E = 0 ∨ E = 1 ∨ E = 2 := by omega
    rcases this with rfl | rfl | rfl <;> simp
/-- after a call of the country, T of them done -/
def CCg (lo n T : Nat) (h h' : Hp) : Prop := (∃ B', B' ≤ 2000 ∧ LV n B' T h') ∧ FN n h' ∧ gI h' 1 4 = gI h 1 4 ∧ (∀ a k, (a = 0 ∨ lo ≤ a) → a < nx h → gI h' a k = gI h a k ∧ gR h' a k = gR h a k) ∧ (∀ a, a < nx h → kd h' a = kd h a ∧ ln h' a = ln h a) ∧ nx h ≤ nx h' ∧ nx h' ≤ nx h + 4 ∧ sc h' ≤ sc h + 40
abbrev CC (n T : Nat) (h h' : Hp) : Prop := CCg 115 n T h h'
theorem tsw_out {ts : List Nat} {d m : Nat} {x : Int32} (hm : ts.length = m + 1) (h31 : m < 2147483648) (hb : (decide (0 ≤ x) && decide (x ≤ ii m)) = false) : tsw 0 ts d x = d := by
  unfold tsw
  by_cases h0 : x.toInt < 0
  · rw [if_pos h0]
  · rw [if_neg h0]
    have a1 : (0 : Int32) ≤ x := Int32.le_iff_toInt_le.mpr (by
      have : (0 : Int32).toInt = 0 := by decide
      omega)
    rw [decide_eq_true a1, Bool.true_and] at hb
    have a2 : ¬ x ≤ ii m := of_decide_eq_false hb
    have a3 : ¬ x.toInt ≤ (ii m).toInt := fun w => a2 (Int32.le_iff_toInt_le.mpr w)
    rw [ii_int h31] at a3
    rw [List.getElem?_eq_none (by omega)]
    rfl
section CL
variable {n B T : Nat} {h h' : Hp}
theorem AI.up (A : AI n h) (E : ∀ a k, a < 121 → gI h' a k = gI h a k ∧ gR h' a k = gR h a k ∧ gL h' a k = gL h a k) (ek : ∀ a, a < 121 → kd h' a = kd h a ∧ ln h' a = ln h a) (hx : 121 ≤ nx h') : AI n h' := by
  obtain ⟨S, ⟨H, c, R, I1, I2⟩, N, ⟨lk, l1, l2⟩, D⟩ := id A
  have hn := n8 S
  have hcc := R.1
  have eI : ∀ a k, a < 121 → gI h' a k = gI h a k := fun a k ha => (E a k ha).1
  have eR : ∀ a k, a < 121 → gR h' a k = gR h a k := fun a k ha => (E a k ha).2.1
  have eL : ∀ a k, a < 121 → gL h' a k = gL h a k := fun a k ha => (E a k ha).2.2
  refine ⟨?_, ⟨H.fr fun k => eI _ _ (by omega), c, R.fr fun k => eR _ _ (by omega), I1.fr (fun a b ha hb => eI _ _ (by omega)) (fun a b ha hb => eI _ _ (by omega)), I2.fr (fun a b ha hb => eI _ _ (by omega)) (fun a b ha hb => eI _ _ (by omega))⟩,
    fun j hj => (N j hj).fr hj (fun a k p q => eI _ _ (by omega)) (fun x hx => eI _ _ (by omega)) (eI _ _ (by omega)) (fun k => eR _ _ (by omega)) (fun k q => eI _ _ (by omega)) (fun k => eL _ _ (by omega)),
    ⟨lk, l1, by rw [eI _ _ (by omega)]; exact l2⟩, D.fr (eI _ _ (by omega)) (fun j k hj => eL _ _ (by omega))⟩
  obtain ⟨s1, s2, s3, s4, s5, s6, s7, s8, s9, s10⟩ := S
  refine ⟨⟨hx, fun a p q => by rw [(ek a q).1, (ek a q).2]; exact s1.2 a p q⟩, ⟨s2.1, by rw [eI 2 2 (by omega)]; exact s2.2⟩, ?_, ?_, fun j hj => ?_, fun j hj k hk => ?_, ?_, ?_, fun j hj => ?_, ?_⟩
  · rw [eR _ _ (by omega), eR _ _ (by omega), eR _ _ (by omega), eR _ _ (by omega)]; exact s3
  · rw [eR _ _ (by omega), eR _ _ (by omega)]; exact s4
  · rw [eR _ _ (by omega), eR _ _ (by omega), eR _ _ (by omega), eR _ _ (by omega), eR _ _ (by omega)]; exact s5 j hj
  · rw [eR _ _ (by omega)]; exact s6 j hj k hk
  · rw [eR _ _ (by omega), eR _ _ (by omega), eR _ _ (by omega)]; exact s7
  · rw [eR _ _ (by omega), eR _ _ (by omega), eR _ _ (by omega), eR _ _ (by omega), eR _ _ (by omega)]; exact s8
  · rw [eR _ _ (by omega), eR _ _ (by omega), eR _ _ (by omega), eR _ _ (by omega)]; exact s9 j hj
  · rw [eR _ _ (by omega), eR _ _ (by omega), eR _ _ (by omega), eR _ _ (by omega)]; exact s10
theorem LV.up (L : LV n B T h) (E : ∀ a k, a < 121 → gI h' a k = gI h a k ∧ gR h' a k = gR h a k ∧ gL h' a k = gL h a k) (ek : ∀ a, a < 121 → kd h' a = kd h a ∧ ln h' a = ln h a) (hx : 121 ≤ nx h') : LV n B T h' := by
  obtain ⟨⟨A, c, c1, c2, M⟩, C, V, sl⟩ := L
  have hn := n8 A.1
  refine ⟨⟨A.up E ek hx, c, c1, by rw [(E 115 5 (by omega)).1]; exact c2, M.of fun a k p q => (E a k q).1⟩, C.fr fun x f hx _ _ => (E _ _ (by omega)).1, fun x hx => ?_, by rw [(E 114 2 (by omega)).1]; exact sl⟩
  obtain ⟨s, s1, s2⟩ := V x hx
  exact ⟨s, s1, by rw [(E _ _ (by omega)).1]; exact s2⟩
theorem LV.next (L : LV n B T h) : LV n B (T + 1) h := by
  obtain ⟨K, C, V, sl⟩ := L
  exact ⟨K, C, V.fr fun _ _ => rfl, sl⟩
theorem FN.up (W : FN n h) (E : ∀ a k, a < 121 → gI h' a k = gI h a k ∧ gR h' a k = gR h a k ∧ gL h' a k = gL h a k) : FN n h' := fun i h1 h2 => by
  obtain ⟨x, y, z⟩ := W i h1 h2
  exact ⟨by rw [(E _ _ (by omega)).1]; exact x, fun k p q r s => by rw [(E _ _ (by omega)).1]; exact y k p q r s, fun k q => by rw [(E _ _ (by omega)).2.2]; exact z k q⟩
theorem CC.refl {lo : Nat} (L : LV n B T h) (hB : B ≤ 2000) (W : FN n h) : CCg lo n (T + 1) h h := ⟨⟨B, hB, L.next⟩, W, rfl, fun _ _ _ _ => ⟨rfl, rfl⟩, fun _ _ => ⟨rfl, rfl⟩, Nat.le_refl _, by omega, by omega⟩
theorem CC.st {lo : Nat} (L : LV n B T h) (s : STg lo n B T h h') (W : FN n h) : CCg lo n (T + 1) h h' := by
  have hnx : 121 ≤ nx h := L.1.1.1.1.1
  obtain ⟨B', b1, b2, L', -, -, K, N⟩ := s
  exact ⟨⟨B', b2, L'⟩, N.fn W, (K.1 1 4 (by omega) (by omega)).1, fun a k q hlt => K.1 a k (by omega) hlt, K.2.1, K.2.2.1, by have := K.2.2.2.1; omega, by have := K.2.2.2.2; omega⟩
theorem CC.ex {lo : Nat} (L : LV n B T h) (hB : B ≤ 2000) (W : FN n h) (E : Ex h h') (h1 : nx h' ≤ nx h + 4) (h2 : sc h' ≤ sc h + 40) : CCg lo n (T + 1) h h' := by
  have hnx : 121 ≤ nx h := L.1.1.1.1.1
  have e : ∀ a k, a < 121 → gI h' a k = gI h a k ∧ gR h' a k = gR h a k ∧ gL h' a k = gL h a k := fun a k ha => E.1 a k (by omega)
  exact ⟨⟨B, hB, (L.up e (fun a ha => E.2.1 a (by omega)) (Nat.le_trans hnx E.2.2)).next⟩, W.up e, (e 1 4 (by omega)).1, fun a k _ hlt => ⟨(E.1 a k hlt).1, (E.1 a k hlt).2.1⟩, E.2.1, E.2.2, h1, h2⟩
theorem CC.exc {lo : Nat} (L : LV n B T h) (hB : B ≤ 2000) (W : FN n h) (c : Nat) : CCg lo n (T + 1) h (hN h c 0 6) := CC.ex L hB W (Ex.hN h c 0 6) (by rw [nx_hN]; omega) (by rw [sc_hN]; omega)
theorem c_node9 (S : Str n h) (hr : okR cM sM h 1 6 = true) (x : Int32) : (∃ i, i < n ∧ x = ii i) ∨ ∀ Q, WP Gm j_S_checkNode 0 [some (.inr (.inl (some 1))), some (.inl x)] [] h Q = Q (.inr 2) (hN h kc_IndexOutOfBoundsException 0 6) := by
  cases hb : decide (0 ≤ x ∧ x < ii n) with
  | true =>
    obtain ⟨v, v1, v2⟩ := node_of (n8 S) hb
    exact Or.inl ⟨v, v1, v2⟩
  | false =>
    refine Or.inr fun Q => ?_
    simp only [↓e_S_checkNode_0, ↓e_S_checkNode_1, ↓e_S_checkNode_4, ↓e_S_checkNode_5, ↓e_S_checkNode_8, ↓e_S_checkNode_11, ↓e_S_checkNode_22, not_true_eq_false, not_false_eq_true, one0, true_or, or_true, eq_self, bI_z, bI_nz, bI_o, b_ft, bI_1, bI_0, ↓kC_l, ↓kC_r, Option.toList_some, Option.toList_none, List.cons_append, List.nil_append, s1_0, s1_1i, s1_1r, s1_1w, s1_1n, s1_s, s2_0, s2_1i, s2_1r, s2_1w, s2_1n, s2_s, gI_sI, gI_sR, gI_sL, gI_sD, gR_sI, gR_sR, gR_sL, gR_sD, gL_sI, gL_sR, gL_sL, gL_sD, gD_sI, gD_sR, gD_sL, gD_sD, isK_sI, isK_sR, isK_sL, isK_sD, inL_sI, inL_sR, inL_sL, inL_sD, nx_sI, nx_sR, nx_sL, nx_sD, kd_sI, kd_sR, kd_sL, kd_sD, ln_sI, ln_sR, ln_sL, ln_sD, ↓reduceIte, c8_n, c8_1, c8_2, c8_3, c8_4, Nat.reduceAdd, k_s S, k_land S, k_nodes S, k_hear S, k_routes S, k_traffic S, k_market S, g_cnt S, r_land S, r_routes S, r_traffic S, r_market S, r_nodes S, r_hear S, r_rland S, r_tland S, r_troutes S, q_isNode _ S, hb, hr]
theorem c_pair9 (S : Str n h) (hr : okR cM sM h 1 6 = true) (x y : Int32) : (∃ i j, i < n ∧ j < n ∧ i ≠ j ∧ x = ii i ∧ y = ii j) ∨ (∃ E c, (E = 0 ∨ E = 2) ∧ ∀ Q, WP Gm j_S_checkPair 0 [some (.inr (.inl (some 1))), some (.inl x), some (.inl y)] [] h Q = Q (.inr E) (hN h c 0 6)) := by
  have hn := n8 S
  rcases c_node9 S hr x with ⟨i, hi, rfl⟩ | hx
  · rcases c_node9 S hr y with ⟨j, hj, rfl⟩ | hy
    · by_cases hij : i = j
      · refine Or.inr ⟨0, kc_IllegalArgumentException, Or.inl rfl, fun Q => ?_⟩
        subst hij
        simp only [↓e_S_checkPair_0, ↓e_S_checkPair_1, ↓e_S_checkPair_2, ↓e_S_checkPair_5, ↓e_S_checkPair_6, ↓e_S_checkPair_7, ↓e_S_checkPair_10, ↓e_S_checkPair_11, ↓e_S_checkPair_12, ↓e_S_checkPair_15, ↓e_S_checkPair_26, not_true_eq_false, not_false_eq_true, one0, true_or, or_true, eq_self, bI_z, bI_nz, bI_o, b_ft, bI_1, bI_0, ↓kC_l, ↓kC_r, Option.toList_some, Option.toList_none, List.cons_append, List.nil_append, s1_0, s1_1i, s1_1r, s1_1w, s1_1n, s1_s, s2_0, s2_1i, s2_1r, s2_1w, s2_1n, s2_s, gI_sI, gI_sR, gI_sL, gI_sD, gR_sI, gR_sR, gR_sL, gR_sD, gL_sI, gL_sR, gL_sL, gL_sD, gD_sI, gD_sR, gD_sL, gD_sD, isK_sI, isK_sR, isK_sL, isK_sD, inL_sI, inL_sR, inL_sL, inL_sD, nx_sI, nx_sR, nx_sL, nx_sD, kd_sI, kd_sR, kd_sL, kd_sD, ln_sI, ln_sR, ln_sL, ln_sD, ↓reduceIte, c8_n, c8_1, c8_2, c8_3, c8_4, Nat.reduceAdd, k_s S, k_land S, k_nodes S, k_hear S, k_routes S, k_traffic S, k_market S, g_cnt S, r_land S, r_routes S, r_traffic S, r_market S, r_nodes S, r_hear S, r_rland S, r_tland S, r_troutes S, q_checkNode _ S hi, hr]
      · exact Or.inl ⟨i, j, hi, hj, hij, rfl, rfl⟩
    · refine Or.inr ⟨2, kc_IndexOutOfBoundsException, Or.inr rfl, fun Q => ?_⟩
      simp only [↓e_S_checkPair_0, ↓e_S_checkPair_1, ↓e_S_checkPair_2, ↓e_S_checkPair_5, ↓e_S_checkPair_6, ↓e_S_checkPair_7, ↓e_S_checkPair_10, ↓e_S_checkPair_11, ↓e_S_checkPair_12, ↓e_S_checkPair_15, ↓e_S_checkPair_26, not_true_eq_false, not_false_eq_true, one0, true_or, or_true, eq_self, bI_z, bI_nz, bI_o, b_ft, bI_1, bI_0, ↓kC_l, ↓kC_r, Option.toList_some, Option.toList_none, List.cons_append, List.nil_append, s1_0, s1_1i, s1_1r, s1_1w, s1_1n, s1_s, s2_0, s2_1i, s2_1r, s2_1w, s2_1n, s2_s, gI_sI, gI_sR, gI_sL, gI_sD, gR_sI, gR_sR, gR_sL, gR_sD, gL_sI, gL_sR, gL_sL, gL_sD, gD_sI, gD_sR, gD_sL, gD_sD, isK_sI, isK_sR, isK_sL, isK_sD, inL_sI, inL_sR, inL_sL, inL_sD, nx_sI, nx_sR, nx_sL, nx_sD, kd_sI, kd_sR, kd_sL, kd_sD, ln_sI, ln_sR, ln_sL, ln_sD, ↓reduceIte, c8_n, c8_1, c8_2, c8_3, c8_4, Nat.reduceAdd, k_s S, k_land S, k_nodes S, k_hear S, k_routes S, k_traffic S, k_market S, g_cnt S, r_land S, r_routes S, r_traffic S, r_market S, r_nodes S, r_hear S, r_rland S, r_tland S, r_troutes S, q_checkNode _ S hi, hy]
  · refine Or.inr ⟨2, kc_IndexOutOfBoundsException, Or.inr rfl, fun Q => ?_⟩
    simp only [↓e_S_checkPair_0, ↓e_S_checkPair_1, ↓e_S_checkPair_2, ↓e_S_checkPair_5, ↓e_S_checkPair_6, ↓e_S_checkPair_7, ↓e_S_checkPair_10, ↓e_S_checkPair_11, ↓e_S_checkPair_12, ↓e_S_checkPair_15, ↓e_S_checkPair_26, not_true_eq_false, not_false_eq_true, one0, true_or, or_true, eq_self, bI_z, bI_nz, bI_o, b_ft, bI_1, bI_0, ↓kC_l, ↓kC_r, Option.toList_some, Option.toList_none, List.cons_append, List.nil_append, s1_0, s1_1i, s1_1r, s1_1w, s1_1n, s1_s, s2_0, s2_1i, s2_1r, s2_1w, s2_1n, s2_s, gI_sI, gI_sR, gI_sL, gI_sD, gR_sI, gR_sR, gR_sL, gR_sD, gL_sI, gL_sR, gL_sL, gL_sD, gD_sI, gD_sR, gD_sL, gD_sD, isK_sI, isK_sR, isK_sL, isK_sD, inL_sI, inL_sR, inL_sL, inL_sD, nx_sI, nx_sR, nx_sL, nx_sD, kd_sI, kd_sR, kd_sL, kd_sD, ln_sI, ln_sR, ln_sL, ln_sD, ↓reduceIte, c8_n, c8_1, c8_2, c8_3, c8_4, Nat.reduceAdd, k_s S, k_land S, k_nodes S, k_hear S, k_routes S, k_traffic S, k_market S, g_cnt S, r_land S, r_routes S, r_traffic S, r_market S, r_nodes S, r_hear S, r_rland S, r_tland S, r_troutes S, hx]
theorem c_node (L : LV n B T h) (hB : B ≤ 2000) (W : FN n h) (hr : okR cM sM h 1 6 = true) (x y r : Int32) {ch : Int32} (hc : ch = 0 ∨ ch = 1) : ∃ rs h', (∀ Q, WP Gm j_S_node 0 [some (.inr (.inl (some 1))), some (.inl x), some (.inl y), some (.inl r), some (.inl ch)] [] h Q = Q rs h') ∧ OKs [0, 1] rs ∧ CC (if nodeOK x y r = true ∧ n < 8 then n + 1 else n) (T + 1) h h' ∧ rs = (if nodeOK x y r = true then (if n < 8 then .inl (some (.inl (ii n))) else .inr 1) else .inr 0) := by
  have A := L.1.1
  have S := A.1
  have hn := n8 S
  have e8 : (ii n < (8 : Int32)) = (n < 8) := ii_lt (j := 8) (by omega) (by omega)
  cases hb : nodeOK x y r with
  | false =>
    rw [if_neg (by simp), if_neg (by simp)]
    refine ⟨.inr 0, _, fun Q => ?_, OKs.e (by simp), CC.exc L hB W kc_IllegalArgumentException, rfl⟩
    unfold nodeOK at hb
    cases e1 : ((decide (0 ≤ x) && decide (x ≤ 29)) && (decide (0 ≤ y) && decide (y ≤ 29))) with
    | false => simp only [↓e_S_node_0, ↓e_S_node_1, ↓e_S_node_2, ↓e_S_node_5, ↓e_S_node_8, ↓e_S_node_9, ↓e_S_node_12, ↓e_S_node_15, ↓e_S_node_25, ↓e_S_node_26, ↓e_S_node_29, ↓e_S_node_32, ↓e_S_node_34, ↓e_S_node_37, ↓e_S_node_47, ↓e_S_node_48, ↓e_S_node_51, ↓e_S_node_52, ↓e_S_node_53, ↓e_S_node_54, ↓e_S_node_56, ↓e_S_node_59, not_true_eq_false, not_false_eq_true, one0, true_or, or_true, eq_self, bI_z, bI_nz, bI_o, b_ft, bI_1, bI_0, ↓kC_l, ↓kC_r, Option.toList_some, Option.toList_none, List.cons_append, List.nil_append, s1_0, s1_1i, s1_1r, s1_1w, s1_1n, s1_s, s2_0, s2_1i, s2_1r, s2_1w, s2_1n, s2_s, gI_sI, gI_sR, gI_sL, gI_sD, gR_sI, gR_sR, gR_sL, gR_sD, gL_sI, gL_sR, gL_sL, gL_sD, gD_sI, gD_sR, gD_sL, gD_sD, isK_sI, isK_sR, isK_sL, isK_sD, inL_sI, inL_sR, inL_sL, inL_sD, nx_sI, nx_sR, nx_sL, nx_sD, kd_sI, kd_sR, kd_sL, kd_sD, ln_sI, ln_sR, ln_sL, ln_sD, ↓reduceIte, c8_n, c8_1, c8_2, c8_3, c8_4, Nat.reduceAdd, k_s S, k_land S, k_nodes S, k_hear S, k_routes S, k_traffic S, k_market S, g_cnt S, r_land S, r_routes S, r_traffic S, r_market S, r_nodes S, r_hear S, r_rland S, r_tland S, r_troutes S, q_isPlace, q_isReach, e1, hr]
    | true =>
      cases e3 : (decide (1 ≤ r) && decide (r ≤ 42)) with
      | false => simp only [↓e_S_node_0, ↓e_S_node_1, ↓e_S_node_2, ↓e_S_node_5, ↓e_S_node_8, ↓e_S_node_9, ↓e_S_node_12, ↓e_S_node_15, ↓e_S_node_25, ↓e_S_node_26, ↓e_S_node_29, ↓e_S_node_32, ↓e_S_node_34, ↓e_S_node_37, ↓e_S_node_47, ↓e_S_node_48, ↓e_S_node_51, ↓e_S_node_52, ↓e_S_node_53, ↓e_S_node_54, ↓e_S_node_56, ↓e_S_node_59, not_true_eq_false, not_false_eq_true, one0, true_or, or_true, eq_self, bI_z, bI_nz, bI_o, b_ft, bI_1, bI_0, ↓kC_l, ↓kC_r, Option.toList_some, Option.toList_none, List.cons_append, List.nil_append, s1_0, s1_1i, s1_1r, s1_1w, s1_1n, s1_s, s2_0, s2_1i, s2_1r, s2_1w, s2_1n, s2_s, gI_sI, gI_sR, gI_sL, gI_sD, gR_sI, gR_sR, gR_sL, gR_sD, gL_sI, gL_sR, gL_sL, gL_sD, gD_sI, gD_sR, gD_sL, gD_sD, isK_sI, isK_sR, isK_sL, isK_sD, inL_sI, inL_sR, inL_sL, inL_sD, nx_sI, nx_sR, nx_sL, nx_sD, kd_sI, kd_sR, kd_sL, kd_sD, ln_sI, ln_sR, ln_sL, ln_sD, ↓reduceIte, c8_n, c8_1, c8_2, c8_3, c8_4, Nat.reduceAdd, k_s S, k_land S, k_nodes S, k_hear S, k_routes S, k_traffic S, k_market S, g_cnt S, r_land S, r_routes S, r_traffic S, r_market S, r_nodes S, r_hear S, r_rland S, r_tland S, r_troutes S, q_isPlace, q_isReach, e1, e3, hr]
      | true =>
        rw [← Bool.and_assoc, e1, e3] at hb
        cases hb
  | true =>
    have hb2 := hb
    unfold nodeOK at hb2
    rw [← Bool.and_assoc, Bool.and_eq_true] at hb2
    obtain ⟨e1, e3⟩ := hb2
    by_cases h8 : n < 8
    · rw [if_pos ⟨rfl, h8⟩, if_pos rfl, if_pos h8]
      obtain ⟨h', r1, r2, r3, r4⟩ := q_landAdd A h8 W x y r hc
      obtain ⟨⟨-, c, c1, c2, M⟩, C, V, sl⟩ := id L
      have eN : ∀ x f, x < n → 10 ≤ f → gI h' (5 + 9 * x) f = gI h (5 + 9 * x) f := fun x f hx hf => r4.1 _ _ (by omega)
      have z : ∀ f, 10 ≤ f → f < 15 → gI h' (5 + 9 * n) f = 0 := fun f h1 h2 => by rw [r4.1 _ _ (by omega)]; exact (W n (Nat.le_refl _) h8).2.1 f (by omega) h2 (by omega) (by omega)
      have hnx : 121 ≤ nx h := S.1.1
      refine ⟨.inl (some (.inl (ii n))), h', fun Q => ?_, OKs.v _, ⟨⟨B, hB, ⟨r2, c, c1, by rw [r4.1 _ _ (by omega)]; exact c2, M.of fun a k p q => r4.1 _ _ (by omega)⟩, fun x hx => ?_, fun x hx => ?_, by rw [r4.1 _ _ (by omega)]; exact sl⟩, r3, r4.1 _ _ (by omega), fun a k q _ => ⟨r4.1 _ _ (by omega), r4.2.1 _ _ (fun w => w)⟩, fun a _ => ⟨r4.2.2.2.1 a, r4.2.2.2.2.1 a⟩, by rw [r4.2.2.2.2.2.1]; omega, by rw [r4.2.2.2.2.2.1]; omega, by rw [r4.2.2.2.2.2.2]; omega⟩, rfl⟩
      · simp only [↓e_S_node_0, ↓e_S_node_1, ↓e_S_node_2, ↓e_S_node_5, ↓e_S_node_8, ↓e_S_node_9, ↓e_S_node_12, ↓e_S_node_15, ↓e_S_node_25, ↓e_S_node_26, ↓e_S_node_29, ↓e_S_node_32, ↓e_S_node_34, ↓e_S_node_37, ↓e_S_node_47, ↓e_S_node_48, ↓e_S_node_51, ↓e_S_node_52, ↓e_S_node_53, ↓e_S_node_54, ↓e_S_node_56, ↓e_S_node_59, not_true_eq_false, not_false_eq_true, one0, true_or, or_true, eq_self, bI_z, bI_nz, bI_o, b_ft, bI_1, bI_0, ↓kC_l, ↓kC_r, Option.toList_some, Option.toList_none, List.cons_append, List.nil_append, s1_0, s1_1i, s1_1r, s1_1w, s1_1n, s1_s, s2_0, s2_1i, s2_1r, s2_1w, s2_1n, s2_s, gI_sI, gI_sR, gI_sL, gI_sD, gR_sI, gR_sR, gR_sL, gR_sD, gL_sI, gL_sR, gL_sL, gL_sD, gD_sI, gD_sR, gD_sL, gD_sD, isK_sI, isK_sR, isK_sL, isK_sD, inL_sI, inL_sR, inL_sL, inL_sD, nx_sI, nx_sR, nx_sL, nx_sD, kd_sI, kd_sR, kd_sL, kd_sD, ln_sI, ln_sR, ln_sL, ln_sD, ↓reduceIte, c8_n, c8_1, c8_2, c8_3, c8_4, Nat.reduceAdd, k_s S, k_land S, k_nodes S, k_hear S, k_routes S, k_traffic S, k_market S, g_cnt S, r_land S, r_routes S, r_traffic S, r_market S, r_nodes S, r_hear S, r_rland S, r_tland S, r_troutes S, q_isPlace, q_isReach, e1, e3, e8, h8, r1]
      · by_cases e : x = n
        · subst e
          exact ⟨0, 0, 0, 0, z 10 (by omega) (by omega), z 11 (by omega) (by omega), z 12 (by omega) (by omega), z 13 (by omega) (by omega), by omega, by omega, by omega, by omega⟩
        · obtain ⟨a, b, p, r, q1, q2, q3, q4, q5⟩ := C x (by omega)
          exact ⟨a, b, p, r, by rw [eN x 10 (by omega) (by omega)]; exact q1, by rw [eN x 11 (by omega) (by omega)]; exact q2, by rw [eN x 12 (by omega) (by omega)]; exact q3, by rw [eN x 13 (by omega) (by omega)]; exact q4, q5⟩
      · by_cases e : x = n
        · subst e
          exact ⟨0, by omega, z 14 (by omega) (by omega)⟩
        · obtain ⟨s, s1, s2⟩ := V x (by omega)
          exact ⟨s, by omega, by rw [eN x 14 (by omega) (by omega)]; exact s2⟩
    · rw [if_neg (fun w => h8 w.2), if_pos rfl, if_neg h8]
      refine ⟨.inr 1, _, fun Q => ?_, OKs.e (by simp), CC.exc L hB W kc_IllegalStateException, rfl⟩
      simp only [↓e_S_node_0, ↓e_S_node_1, ↓e_S_node_2, ↓e_S_node_5, ↓e_S_node_8, ↓e_S_node_9, ↓e_S_node_12, ↓e_S_node_15, ↓e_S_node_25, ↓e_S_node_26, ↓e_S_node_29, ↓e_S_node_32, ↓e_S_node_34, ↓e_S_node_37, ↓e_S_node_47, ↓e_S_node_48, ↓e_S_node_51, ↓e_S_node_52, ↓e_S_node_53, ↓e_S_node_54, ↓e_S_node_56, ↓e_S_node_59, not_true_eq_false, not_false_eq_true, one0, true_or, or_true, eq_self, bI_z, bI_nz, bI_o, b_ft, bI_1, bI_0, ↓kC_l, ↓kC_r, Option.toList_some, Option.toList_none, List.cons_append, List.nil_append, s1_0, s1_1i, s1_1r, s1_1w, s1_1n, s1_s, s2_0, s2_1i, s2_1r, s2_1w, s2_1n, s2_s, gI_sI, gI_sR, gI_sL, gI_sD, gR_sI, gR_sR, gR_sL, gR_sD, gL_sI, gL_sR, gL_sL, gL_sD, gD_sI, gD_sR, gD_sL, gD_sD, isK_sI, isK_sR, isK_sL, isK_sD, inL_sI, inL_sR, inL_sL, inL_sD, nx_sI, nx_sR, nx_sL, nx_sD, kd_sI, kd_sR, kd_sL, kd_sD, ln_sI, ln_sR, ln_sL, ln_sD, ↓reduceIte, c8_n, c8_1, c8_2, c8_3, c8_4, Nat.reduceAdd, k_s S, k_land S, k_nodes S, k_hear S, k_routes S, k_traffic S, k_market S, g_cnt S, r_land S, r_routes S, r_traffic S, r_market S, r_nodes S, r_hear S, r_rland S, r_tland S, r_troutes S, q_isPlace, q_isReach, e1, e3, e8, h8, hr]
theorem c_move (L : LV n B T h) (hB : B ≤ 2000) (W : FN n h) (hr : okR cM sM h 1 6 = true) (x y z : Int32) : ∃ rs h', (∀ Q, WP Gm j_S_move 0 [some (.inr (.inl (some 1))), some (.inl x), some (.inl y), some (.inl z)] [] h Q = Q rs h') ∧ OKs [0, 1, 2] rs ∧ CC n (T + 1) h h' := by
  have S := L.1.1.1
  rcases c_node9 S hr x with ⟨i, hi, rfl⟩ | hx
  · cases e1 : ((decide (0 ≤ y) && decide (y ≤ 29)) && (decide (0 ≤ z) && decide (z ≤ 29))) with
    | false =>
      refine ⟨.inr 0, _, fun Q => ?_, OKs.e (by simp), CC.exc L hB W kc_IllegalArgumentException⟩
      simp only [↓e_S_move_0, ↓e_S_move_1, ↓e_S_move_2, ↓e_S_move_5, ↓e_S_move_6, ↓e_S_move_7, ↓e_S_move_10, ↓e_S_move_13, ↓e_S_move_23, ↓e_S_move_24, ↓e_S_move_25, ↓e_S_move_28, ↓e_S_move_29, ↓e_S_move_32, ↓e_S_move_33, ↓e_S_move_34, ↓e_S_move_35, ↓e_S_move_38, ↓e_S_move_39, ↓e_S_move_42, ↓e_S_move_43, ↓e_S_move_46, ↓e_S_move_49, not_true_eq_false, not_false_eq_true, one0, true_or, or_true, eq_self, bI_z, bI_nz, bI_o, b_ft, bI_1, bI_0, ↓kC_l, ↓kC_r, Option.toList_some, Option.toList_none, List.cons_append, List.nil_append, s1_0, s1_1i, s1_1r, s1_1w, s1_1n, s1_s, s2_0, s2_1i, s2_1r, s2_1w, s2_1n, s2_s, gI_sI, gI_sR, gI_sL, gI_sD, gR_sI, gR_sR, gR_sL, gR_sD, gL_sI, gL_sR, gL_sL, gL_sD, gD_sI, gD_sR, gD_sL, gD_sD, isK_sI, isK_sR, isK_sL, isK_sD, inL_sI, inL_sR, inL_sL, inL_sD, nx_sI, nx_sR, nx_sL, nx_sD, kd_sI, kd_sR, kd_sL, kd_sD, ln_sI, ln_sR, ln_sL, ln_sD, ↓reduceIte, c8_n, c8_1, c8_2, c8_3, c8_4, Nat.reduceAdd, k_s S, k_land S, k_nodes S, k_hear S, k_routes S, k_traffic S, k_market S, g_cnt S, r_land S, r_routes S, r_traffic S, r_market S, r_nodes S, r_hear S, r_rland S, r_tland S, r_troutes S, q_checkNode _ S hi, q_isPlace, e1, hr]
    | true =>
      rw [Bool.and_eq_true] at e1
      obtain ⟨a, a1, rfl⟩ := i32_cases (b := 29) (by omega) e1.1
      obtain ⟨b, b1, rfl⟩ := i32_cases (b := 29) (by omega) e1.2
      obtain ⟨r, h', r1, r2, r3⟩ := s_move L hB hr hi (show a < 30 by omega) (show b < 30 by omega)
      exact ⟨r, h', r1, r2.s, CC.st L r3 W⟩
  · refine ⟨.inr 2, _, fun Q => ?_, OKs.e (by simp), CC.exc L hB W kc_IndexOutOfBoundsException⟩
    simp only [↓e_S_move_0, ↓e_S_move_1, ↓e_S_move_2, ↓e_S_move_5, ↓e_S_move_6, ↓e_S_move_7, ↓e_S_move_10, ↓e_S_move_13, ↓e_S_move_23, ↓e_S_move_24, ↓e_S_move_25, ↓e_S_move_28, ↓e_S_move_29, ↓e_S_move_32, ↓e_S_move_33, ↓e_S_move_34, ↓e_S_move_35, ↓e_S_move_38, ↓e_S_move_39, ↓e_S_move_42, ↓e_S_move_43, ↓e_S_move_46, ↓e_S_move_49, not_true_eq_false, not_false_eq_true, one0, true_or, or_true, eq_self, bI_z, bI_nz, bI_o, b_ft, bI_1, bI_0, ↓kC_l, ↓kC_r, Option.toList_some, Option.toList_none, List.cons_append, List.nil_append, s1_0, s1_1i, s1_1r, s1_1w, s1_1n, s1_s, s2_0, s2_1i, s2_1r, s2_1w, s2_1n, s2_s, gI_sI, gI_sR, gI_sL, gI_sD, gR_sI, gR_sR, gR_sL, gR_sD, gL_sI, gL_sR, gL_sL, gL_sD, gD_sI, gD_sR, gD_sL, gD_sD, isK_sI, isK_sR, isK_sL, isK_sD, inL_sI, inL_sR, inL_sL, inL_sD, nx_sI, nx_sR, nx_sL, nx_sD, kd_sI, kd_sR, kd_sL, kd_sD, ln_sI, ln_sR, ln_sL, ln_sD, ↓reduceIte, c8_n, c8_1, c8_2, c8_3, c8_4, Nat.reduceAdd, k_s S, k_land S, k_nodes S, k_hear S, k_routes S, k_traffic S, k_market S, g_cnt S, r_land S, r_routes S, r_traffic S, r_market S, r_nodes S, r_hear S, r_rland S, r_tland S, r_troutes S, hx]
theorem c_tune (L : LV n B T h) (hB : B ≤ 2000) (W : FN n h) (hr : okR cM sM h 1 6 = true) (x y : Int32) {z : Int32} (hz : z = 0 ∨ z = 1) : ∃ rs h', (∀ Q, WP Gm j_S_tune 0 [some (.inr (.inl (some 1))), some (.inl x), some (.inl y), some (.inl z), none] [] h Q = Q rs h') ∧ OKs [0, 1, 2] rs ∧ CC n (T + 1) h h' := by
  have S := L.1.1.1
  rcases c_node9 S hr x with ⟨i, hi, rfl⟩ | hx
  · cases e1 : (decide (1 ≤ y) && decide (y ≤ 42)) with
    | false =>
      refine ⟨.inr 0, _, fun Q => ?_, OKs.e (by simp), CC.exc L hB W kc_IllegalArgumentException⟩
      simp only [↓e_S_tune_0, ↓e_S_tune_1, ↓e_S_tune_2, ↓e_S_tune_5, ↓e_S_tune_6, ↓e_S_tune_9, ↓e_S_tune_12, ↓e_S_tune_22, ↓e_S_tune_23, ↓e_S_tune_24, ↓e_S_tune_27, ↓e_S_tune_28, ↓e_S_tune_31, ↓e_S_tune_34, ↓e_S_tune_35, ↓e_S_tune_36, ↓e_S_tune_39, ↓e_S_tune_41, ↓e_S_tune_42, ↓e_S_tune_45, ↓e_S_tune_46, ↓e_S_tune_47, ↓e_S_tune_48, ↓e_S_tune_51, ↓e_S_tune_53, not_true_eq_false, not_false_eq_true, one0, true_or, or_true, eq_self, bI_z, bI_nz, bI_o, b_ft, bI_1, bI_0, ↓kC_l, ↓kC_r, Option.toList_some, Option.toList_none, List.cons_append, List.nil_append, s1_0, s1_1i, s1_1r, s1_1w, s1_1n, s1_s, s2_0, s2_1i, s2_1r, s2_1w, s2_1n, s2_s, gI_sI, gI_sR, gI_sL, gI_sD, gR_sI, gR_sR, gR_sL, gR_sD, gL_sI, gL_sR, gL_sL, gL_sD, gD_sI, gD_sR, gD_sL, gD_sD, isK_sI, isK_sR, isK_sL, isK_sD, inL_sI, inL_sR, inL_sL, inL_sD, nx_sI, nx_sR, nx_sL, nx_sD, kd_sI, kd_sR, kd_sL, kd_sD, ln_sI, ln_sR, ln_sL, ln_sD, ↓reduceIte, c8_n, c8_1, c8_2, c8_3, c8_4, Nat.reduceAdd, k_s S, k_land S, k_nodes S, k_hear S, k_routes S, k_traffic S, k_market S, g_cnt S, r_land S, r_routes S, r_traffic S, r_market S, r_nodes S, r_hear S, r_rland S, r_tland S, r_troutes S, q_checkNode _ S hi, q_isReach, e1, hr]
    | true =>
      obtain ⟨a, a1, a2, rfl⟩ := i32_cases1 (a := 1) (b := 42) (by omega) e1 (by omega)
      obtain ⟨r, h', r1, r2, r3⟩ := s_tune L hB hr hi a1 a2 hz
      exact ⟨r, h', r1, r2.s, CC.st L r3 W⟩
  · refine ⟨.inr 2, _, fun Q => ?_, OKs.e (by simp), CC.exc L hB W kc_IndexOutOfBoundsException⟩
    simp only [↓e_S_tune_0, ↓e_S_tune_1, ↓e_S_tune_2, ↓e_S_tune_5, ↓e_S_tune_6, ↓e_S_tune_9, ↓e_S_tune_12, ↓e_S_tune_22, ↓e_S_tune_23, ↓e_S_tune_24, ↓e_S_tune_27, ↓e_S_tune_28, ↓e_S_tune_31, ↓e_S_tune_34, ↓e_S_tune_35, ↓e_S_tune_36, ↓e_S_tune_39, ↓e_S_tune_41, ↓e_S_tune_42, ↓e_S_tune_45, ↓e_S_tune_46, ↓e_S_tune_47, ↓e_S_tune_48, ↓e_S_tune_51, ↓e_S_tune_53, not_true_eq_false, not_false_eq_true, one0, true_or, or_true, eq_self, bI_z, bI_nz, bI_o, b_ft, bI_1, bI_0, ↓kC_l, ↓kC_r, Option.toList_some, Option.toList_none, List.cons_append, List.nil_append, s1_0, s1_1i, s1_1r, s1_1w, s1_1n, s1_s, s2_0, s2_1i, s2_1r, s2_1w, s2_1n, s2_s, gI_sI, gI_sR, gI_sL, gI_sD, gR_sI, gR_sR, gR_sL, gR_sD, gL_sI, gL_sR, gL_sL, gL_sD, gD_sI, gD_sR, gD_sL, gD_sD, isK_sI, isK_sR, isK_sL, isK_sD, inL_sI, inL_sR, inL_sL, inL_sD, nx_sI, nx_sR, nx_sL, nx_sD, kd_sI, kd_sR, kd_sL, kd_sD, ln_sI, ln_sR, ln_sL, ln_sD, ↓reduceIte, c8_n, c8_1, c8_2, c8_3, c8_4, Nat.reduceAdd, k_s S, k_land S, k_nodes S, k_hear S, k_routes S, k_traffic S, k_market S, g_cnt S, r_land S, r_routes S, r_traffic S, r_market S, r_nodes S, r_hear S, r_rland S, r_tland S, r_troutes S, hx]
theorem c_send (L : LV n B T h) (hB : B ≤ 2000) (hT : T ≤ 511) (W : FN n h) (hr : okR cM sM h 1 6 = true) (x y z : Int32) : ∃ rs h', (∀ Q, WP Gm j_S_send 0 [some (.inr (.inl (some 1))), some (.inl x), some (.inl y), some (.inl z), none, none] [] h Q = Q rs h') ∧ OKs [0, 1, 2] rs ∧ CC n (T + 1) h h' := by
  have S := L.1.1.1
  have hn := n8 S
  rcases c_node9 S hr x with ⟨i, hi, rfl⟩ | hx
  · rcases c_node9 S hr y with ⟨j, hj, rfl⟩ | hy
    · cases e1 : (decide (1 ≤ z) && decide (z ≤ 3)) with
      | false =>
        refine ⟨.inr 0, _, fun Q => ?_, OKs.e (by simp), CC.exc L hB W kc_IllegalArgumentException⟩
        by_cases hij : ii i = ii j
        · simp only [↓e_S_send_0, ↓e_S_send_1, ↓e_S_send_2, ↓e_S_send_5, ↓e_S_send_6, ↓e_S_send_7, ↓e_S_send_10, ↓e_S_send_11, ↓e_S_send_12, ↓e_S_send_15, ↓e_S_send_16, ↓e_S_send_17, ↓e_S_send_18, ↓e_S_send_21, ↓e_S_send_24, ↓e_S_send_34, ↓e_S_send_35, ↓e_S_send_38, ↓e_S_send_41, ↓e_S_send_42, ↓e_S_send_43, ↓e_S_send_45, ↓e_S_send_47, ↓e_S_send_50, ↓e_S_send_52, ↓e_S_send_54, ↓e_S_send_57, ↓e_S_send_58, ↓e_S_send_59, ↓e_S_send_60, ↓e_S_send_62, ↓e_S_send_63, ↓e_S_send_66, ↓e_S_send_69, ↓e_S_send_79, ↓e_S_send_81, ↓e_S_send_82, ↓e_S_send_85, ↓e_S_send_86, ↓e_S_send_87, ↓e_S_send_90, ↓e_S_send_92, not_true_eq_false, not_false_eq_true, one0, true_or, or_true, eq_self, bI_z, bI_nz, bI_o, b_ft, bI_1, bI_0, ↓kC_l, ↓kC_r, Option.toList_some, Option.toList_none, List.cons_append, List.nil_append, s1_0, s1_1i, s1_1r, s1_1w, s1_1n, s1_s, s2_0, s2_1i, s2_1r, s2_1w, s2_1n, s2_s, gI_sI, gI_sR, gI_sL, gI_sD, gR_sI, gR_sR, gR_sL, gR_sD, gL_sI, gL_sR, gL_sL, gL_sD, gD_sI, gD_sR, gD_sL, gD_sD, isK_sI, isK_sR, isK_sL, isK_sD, inL_sI, inL_sR, inL_sL, inL_sD, nx_sI, nx_sR, nx_sL, nx_sD, kd_sI, kd_sR, kd_sL, kd_sD, ln_sI, ln_sR, ln_sL, ln_sD, ↓reduceIte, c8_n, c8_1, c8_2, c8_3, c8_4, Nat.reduceAdd, k_s S, k_land S, k_nodes S, k_hear S, k_routes S, k_traffic S, k_market S, g_cnt S, r_land S, r_routes S, r_traffic S, r_market S, r_nodes S, r_hear S, r_rland S, r_tland S, r_troutes S, q_checkNode _ S hi, q_checkNode _ S hj, hij, q_isWithin, e1, hr]
        · simp only [↓e_S_send_0, ↓e_S_send_1, ↓e_S_send_2, ↓e_S_send_5, ↓e_S_send_6, ↓e_S_send_7, ↓e_S_send_10, ↓e_S_send_11, ↓e_S_send_12, ↓e_S_send_15, ↓e_S_send_16, ↓e_S_send_17, ↓e_S_send_18, ↓e_S_send_21, ↓e_S_send_24, ↓e_S_send_34, ↓e_S_send_35, ↓e_S_send_38, ↓e_S_send_41, ↓e_S_send_42, ↓e_S_send_43, ↓e_S_send_45, ↓e_S_send_47, ↓e_S_send_50, ↓e_S_send_52, ↓e_S_send_54, ↓e_S_send_57, ↓e_S_send_58, ↓e_S_send_59, ↓e_S_send_60, ↓e_S_send_62, ↓e_S_send_63, ↓e_S_send_66, ↓e_S_send_69, ↓e_S_send_79, ↓e_S_send_81, ↓e_S_send_82, ↓e_S_send_85, ↓e_S_send_86, ↓e_S_send_87, ↓e_S_send_90, ↓e_S_send_92, not_true_eq_false, not_false_eq_true, one0, true_or, or_true, eq_self, bI_z, bI_nz, bI_o, b_ft, bI_1, bI_0, ↓kC_l, ↓kC_r, Option.toList_some, Option.toList_none, List.cons_append, List.nil_append, s1_0, s1_1i, s1_1r, s1_1w, s1_1n, s1_s, s2_0, s2_1i, s2_1r, s2_1w, s2_1n, s2_s, gI_sI, gI_sR, gI_sL, gI_sD, gR_sI, gR_sR, gR_sL, gR_sD, gL_sI, gL_sR, gL_sL, gL_sD, gD_sI, gD_sR, gD_sL, gD_sD, isK_sI, isK_sR, isK_sL, isK_sD, inL_sI, inL_sR, inL_sL, inL_sD, nx_sI, nx_sR, nx_sL, nx_sD, kd_sI, kd_sR, kd_sL, kd_sD, ln_sI, ln_sR, ln_sL, ln_sD, ↓reduceIte, c8_n, c8_1, c8_2, c8_3, c8_4, Nat.reduceAdd, k_s S, k_land S, k_nodes S, k_hear S, k_routes S, k_traffic S, k_market S, g_cnt S, r_land S, r_routes S, r_traffic S, r_market S, r_nodes S, r_hear S, r_rland S, r_tland S, r_troutes S, q_checkNode _ S hi, q_checkNode _ S hj, hij, q_isWithin, e1, hr]
      | true =>
        obtain ⟨a, a1, a2, rfl⟩ := i32_cases1 (a := 1) (b := 3) (by omega) e1 (by omega)
        obtain ⟨r, h', r1, r2, r3⟩ := s_send L hB hT hr hi hj a1 a2
        exact ⟨r, h', r1, r2.s, CC.st L r3 W⟩
    · refine ⟨.inr 2, _, fun Q => ?_, OKs.e (by simp), CC.exc L hB W kc_IndexOutOfBoundsException⟩
      simp only [↓e_S_send_0, ↓e_S_send_1, ↓e_S_send_2, ↓e_S_send_5, ↓e_S_send_6, ↓e_S_send_7, ↓e_S_send_10, ↓e_S_send_11, ↓e_S_send_12, ↓e_S_send_15, ↓e_S_send_16, ↓e_S_send_17, ↓e_S_send_18, ↓e_S_send_21, ↓e_S_send_24, ↓e_S_send_34, ↓e_S_send_35, ↓e_S_send_38, ↓e_S_send_41, ↓e_S_send_42, ↓e_S_send_43, ↓e_S_send_45, ↓e_S_send_47, ↓e_S_send_50, ↓e_S_send_52, ↓e_S_send_54, ↓e_S_send_57, ↓e_S_send_58, ↓e_S_send_59, ↓e_S_send_60, ↓e_S_send_62, ↓e_S_send_63, ↓e_S_send_66, ↓e_S_send_69, ↓e_S_send_79, ↓e_S_send_81, ↓e_S_send_82, ↓e_S_send_85, ↓e_S_send_86, ↓e_S_send_87, ↓e_S_send_90, ↓e_S_send_92, not_true_eq_false, not_false_eq_true, one0, true_or, or_true, eq_self, bI_z, bI_nz, bI_o, b_ft, bI_1, bI_0, ↓kC_l, ↓kC_r, Option.toList_some, Option.toList_none, List.cons_append, List.nil_append, s1_0, s1_1i, s1_1r, s1_1w, s1_1n, s1_s, s2_0, s2_1i, s2_1r, s2_1w, s2_1n, s2_s, gI_sI, gI_sR, gI_sL, gI_sD, gR_sI, gR_sR, gR_sL, gR_sD, gL_sI, gL_sR, gL_sL, gL_sD, gD_sI, gD_sR, gD_sL, gD_sD, isK_sI, isK_sR, isK_sL, isK_sD, inL_sI, inL_sR, inL_sL, inL_sD, nx_sI, nx_sR, nx_sL, nx_sD, kd_sI, kd_sR, kd_sL, kd_sD, ln_sI, ln_sR, ln_sL, ln_sD, ↓reduceIte, c8_n, c8_1, c8_2, c8_3, c8_4, Nat.reduceAdd, k_s S, k_land S, k_nodes S, k_hear S, k_routes S, k_traffic S, k_market S, g_cnt S, r_land S, r_routes S, r_traffic S, r_market S, r_nodes S, r_hear S, r_rland S, r_tland S, r_troutes S, q_checkNode _ S hi, hy]
  · refine ⟨.inr 2, _, fun Q => ?_, OKs.e (by simp), CC.exc L hB W kc_IndexOutOfBoundsException⟩
    simp only [↓e_S_send_0, ↓e_S_send_1, ↓e_S_send_2, ↓e_S_send_5, ↓e_S_send_6, ↓e_S_send_7, ↓e_S_send_10, ↓e_S_send_11, ↓e_S_send_12, ↓e_S_send_15, ↓e_S_send_16, ↓e_S_send_17, ↓e_S_send_18, ↓e_S_send_21, ↓e_S_send_24, ↓e_S_send_34, ↓e_S_send_35, ↓e_S_send_38, ↓e_S_send_41, ↓e_S_send_42, ↓e_S_send_43, ↓e_S_send_45, ↓e_S_send_47, ↓e_S_send_50, ↓e_S_send_52, ↓e_S_send_54, ↓e_S_send_57, ↓e_S_send_58, ↓e_S_send_59, ↓e_S_send_60, ↓e_S_send_62, ↓e_S_send_63, ↓e_S_send_66, ↓e_S_send_69, ↓e_S_send_79, ↓e_S_send_81, ↓e_S_send_82, ↓e_S_send_85, ↓e_S_send_86, ↓e_S_send_87, ↓e_S_send_90, ↓e_S_send_92, not_true_eq_false, not_false_eq_true, one0, true_or, or_true, eq_self, bI_z, bI_nz, bI_o, b_ft, bI_1, bI_0, ↓kC_l, ↓kC_r, Option.toList_some, Option.toList_none, List.cons_append, List.nil_append, s1_0, s1_1i, s1_1r, s1_1w, s1_1n, s1_s, s2_0, s2_1i, s2_1r, s2_1w, s2_1n, s2_s, gI_sI, gI_sR, gI_sL, gI_sD, gR_sI, gR_sR, gR_sL, gR_sD, gL_sI, gL_sR, gL_sL, gL_sD, gD_sI, gD_sR, gD_sL, gD_sD, isK_sI, isK_sR, isK_sL, isK_sD, inL_sI, inL_sR, inL_sL, inL_sD, nx_sI, nx_sR, nx_sL, nx_sD, kd_sI, kd_sR, kd_sL, kd_sD, ln_sI, ln_sR, ln_sL, ln_sD, ↓reduceIte, c8_n, c8_1, c8_2, c8_3, c8_4, Nat.reduceAdd, k_s S, k_land S, k_nodes S, k_hear S, k_routes S, k_traffic S, k_market S, g_cnt S, r_land S, r_routes S, r_traffic S, r_market S, r_nodes S, r_hear S, r_rland S, r_tland S, r_troutes S, hx]
theorem c_pass (L : LV n B T h) (hB : B ≤ 2000) (W : FN n h) (hr : okR cM sM h 1 6 = true) (x : Int32) : ∃ rs h', (∀ Q, WP Gm j_S_pass 0 [some (.inr (.inl (some 1))), some (.inl x), none] [] h Q = Q rs h') ∧ OKs [0, 1] rs ∧ CC n (T + 1) h h' := by
  have S := L.1.1.1
  cases e1 : (decide (1 ≤ x) && decide (x ≤ 200)) with
  | false =>
    refine ⟨.inr 0, _, fun Q => ?_, OKs.e (by simp), CC.exc L hB W kc_IllegalArgumentException⟩
    simp only [↓e_S_pass_0, ↓e_S_pass_1, ↓e_S_pass_2, ↓e_S_pass_5, ↓e_S_pass_8, ↓e_S_pass_11, ↓e_S_pass_21, ↓e_S_pass_22, ↓e_S_pass_25, ↓e_S_pass_28, ↓e_S_pass_29, ↓e_S_pass_30, ↓e_S_pass_33, ↓e_S_pass_36, ↓e_S_pass_46, ↓e_S_pass_47, ↓e_S_pass_48, ↓e_S_pass_49, ↓e_S_pass_50, ↓e_S_pass_53, ↓e_S_pass_54, ↓e_S_pass_57, ↓e_S_pass_60, ↓e_S_pass_63, ↓e_S_pass_66, ↓e_S_pass_67, ↓e_S_pass_70, ↓e_S_pass_73, not_true_eq_false, not_false_eq_true, one0, true_or, or_true, eq_self, bI_z, bI_nz, bI_o, b_ft, bI_1, bI_0, ↓kC_l, ↓kC_r, Option.toList_some, Option.toList_none, List.cons_append, List.nil_append, s1_0, s1_1i, s1_1r, s1_1w, s1_1n, s1_s, s2_0, s2_1i, s2_1r, s2_1w, s2_1n, s2_s, gI_sI, gI_sR, gI_sL, gI_sD, gR_sI, gR_sR, gR_sL, gR_sD, gL_sI, gL_sR, gL_sL, gL_sD, gD_sI, gD_sR, gD_sL, gD_sD, isK_sI, isK_sR, isK_sL, isK_sD, inL_sI, inL_sR, inL_sL, inL_sD, nx_sI, nx_sR, nx_sL, nx_sD, kd_sI, kd_sR, kd_sL, kd_sD, ln_sI, ln_sR, ln_sL, ln_sD, ↓reduceIte, c8_n, c8_1, c8_2, c8_3, c8_4, Nat.reduceAdd, k_s S, k_land S, k_nodes S, k_hear S, k_routes S, k_traffic S, k_market S, g_cnt S, r_land S, r_routes S, r_traffic S, r_market S, r_nodes S, r_hear S, r_rland S, r_tland S, r_troutes S, q_isWithin, e1, hr]
  | true =>
    obtain ⟨t, a1, a2, rfl⟩ := i32_cases1 (a := 1) (b := 200) (by omega) e1 (by omega)
    by_cases hL : B + t ≤ 2000
    · obtain ⟨r, h', r1, ⟨v, r2⟩, r3⟩ := s_pass L a1 a2 hL
      exact ⟨r, h', r1, Or.inl ⟨v, r2⟩, CC.st L r3 W⟩
    · have sl := L.2.2.2
      have eS : ii B + ii t = ii (B + t) := ii_add B t
      have eL : (ii (B + t) ≤ (2000 : Int32)) = False := by rw [show (2000 : Int32) = ii 2000 from rfl, ii_le (by omega) (by omega)]; exact eq_false hL
      refine ⟨.inr 1, _, fun Q => ?_, OKs.e (by simp), CC.exc L hB W kc_IllegalStateException⟩
      simp only [↓e_S_pass_0, ↓e_S_pass_1, ↓e_S_pass_2, ↓e_S_pass_5, ↓e_S_pass_8, ↓e_S_pass_11, ↓e_S_pass_21, ↓e_S_pass_22, ↓e_S_pass_25, ↓e_S_pass_28, ↓e_S_pass_29, ↓e_S_pass_30, ↓e_S_pass_33, ↓e_S_pass_36, ↓e_S_pass_46, ↓e_S_pass_47, ↓e_S_pass_48, ↓e_S_pass_49, ↓e_S_pass_50, ↓e_S_pass_53, ↓e_S_pass_54, ↓e_S_pass_57, ↓e_S_pass_60, ↓e_S_pass_63, ↓e_S_pass_66, ↓e_S_pass_67, ↓e_S_pass_70, ↓e_S_pass_73, not_true_eq_false, not_false_eq_true, one0, true_or, or_true, eq_self, bI_z, bI_nz, bI_o, b_ft, bI_1, bI_0, ↓kC_l, ↓kC_r, Option.toList_some, Option.toList_none, List.cons_append, List.nil_append, s1_0, s1_1i, s1_1r, s1_1w, s1_1n, s1_s, s2_0, s2_1i, s2_1r, s2_1w, s2_1n, s2_s, gI_sI, gI_sR, gI_sL, gI_sD, gR_sI, gR_sR, gR_sL, gR_sD, gL_sI, gL_sR, gL_sL, gL_sD, gD_sI, gD_sR, gD_sL, gD_sD, isK_sI, isK_sR, isK_sL, isK_sD, inL_sI, inL_sR, inL_sL, inL_sD, nx_sI, nx_sR, nx_sL, nx_sD, kd_sI, kd_sR, kd_sL, kd_sD, ln_sI, ln_sR, ln_sL, ln_sD, ↓reduceIte, c8_n, c8_1, c8_2, c8_3, c8_4, Nat.reduceAdd, k_s S, k_land S, k_nodes S, k_hear S, k_routes S, k_traffic S, k_market S, g_cnt S, r_land S, r_routes S, r_traffic S, r_market S, r_nodes S, r_hear S, r_rland S, r_tland S, r_troutes S, q_isWithin, e1, sl, eS, eL, hr]
theorem c_exchange (L : LV n B T h) (hB : B ≤ 2000) (W : FN n h) (hr : okR cM sM h 1 6 = true) (x : Int32) : ∃ rs h', (∀ Q, WP Gm j_S_exchange 0 [some (.inr (.inl (some 1))), some (.inl x), none] [] h Q = Q rs h') ∧ OKs [0] rs ∧ CC n (T + 1) h h' := by
  have S := L.1.1.1
  cases e1 : (decide (1 ≤ x) && decide (x ≤ 10)) with
  | false =>
    refine ⟨.inr 0, _, fun Q => ?_, OKs.e (by simp), CC.exc L hB W kc_IllegalArgumentException⟩
    simp only [↓e_S_exchange_0, ↓e_S_exchange_1, ↓e_S_exchange_2, ↓e_S_exchange_4, ↓e_S_exchange_7, ↓e_S_exchange_10, ↓e_S_exchange_20, ↓e_S_exchange_21, ↓e_S_exchange_22, ↓e_S_exchange_23, ↓e_S_exchange_24, ↓e_S_exchange_27, ↓e_S_exchange_28, ↓e_S_exchange_31, ↓e_S_exchange_34, ↓e_S_exchange_37, ↓e_S_exchange_40, ↓e_S_exchange_41, ↓e_S_exchange_44, ↓e_S_exchange_47, not_true_eq_false, not_false_eq_true, one0, true_or, or_true, eq_self, bI_z, bI_nz, bI_o, b_ft, bI_1, bI_0, ↓kC_l, ↓kC_r, Option.toList_some, Option.toList_none, List.cons_append, List.nil_append, s1_0, s1_1i, s1_1r, s1_1w, s1_1n, s1_s, s2_0, s2_1i, s2_1r, s2_1w, s2_1n, s2_s, gI_sI, gI_sR, gI_sL, gI_sD, gR_sI, gR_sR, gR_sL, gR_sD, gL_sI, gL_sR, gL_sL, gL_sD, gD_sI, gD_sR, gD_sL, gD_sD, isK_sI, isK_sR, isK_sL, isK_sD, inL_sI, inL_sR, inL_sL, inL_sD, nx_sI, nx_sR, nx_sL, nx_sD, kd_sI, kd_sR, kd_sL, kd_sD, ln_sI, ln_sR, ln_sL, ln_sD, ↓reduceIte, c8_n, c8_1, c8_2, c8_3, c8_4, Nat.reduceAdd, k_s S, k_land S, k_nodes S, k_hear S, k_routes S, k_traffic S, k_market S, g_cnt S, r_land S, r_routes S, r_traffic S, r_market S, r_nodes S, r_hear S, r_rland S, r_tland S, r_troutes S, q_isWithin, e1, hr]
  | true =>
    obtain ⟨t, a1, a2, rfl⟩ := i32_cases1 (a := 1) (b := 10) (by omega) e1 (by omega)
    obtain ⟨r, h', r1, ⟨v, r2⟩, r3⟩ := s_exchange L hB a1 a2
    exact ⟨r, h', r1, Or.inl ⟨v, r2⟩, CC.st L r3 W⟩
theorem c_bid (L : LV n B T h) (hB : B ≤ 2000) (W : FN n h) (hr : okR cM sM h 1 6 = true) (x y z : Int32) : ∃ rs h', (∀ Q, WP Gm j_S_bid 0 [some (.inr (.inl (some 1))), some (.inl x), some (.inl y), some (.inl z)] [] h Q = Q rs h') ∧ OKs [0, 1] rs ∧ CCg 121 n (T + 1) h h' := by
  have S := L.1.1.1
  have ref : CCg 121 n (T + 1) h (hN h kc_IllegalArgumentException 0 6) := CC.exc L hB W kc_IllegalArgumentException
  cases e1 : (decide (0 ≤ x) && decide (x ≤ 4)) with
  | false =>
    refine ⟨.inr 0, _, fun Q => ?_, OKs.e (by simp), ref⟩
    simp only [↓e_S_bid_0, ↓e_S_bid_1, ↓e_S_bid_2, ↓e_S_bid_3, ↓e_S_bid_6, ↓e_S_bid_9, ↓e_S_bid_10, ↓e_S_bid_11, ↓e_S_bid_13, ↓e_S_bid_16, ↓e_S_bid_19, ↓e_S_bid_20, ↓e_S_bid_21, ↓e_S_bid_24, ↓e_S_bid_27, ↓e_S_bid_30, ↓e_S_bid_40, ↓e_S_bid_41, ↓e_S_bid_44, ↓e_S_bid_47, ↓e_S_bid_49, ↓e_S_bid_52, ↓e_S_bid_62, ↓e_S_bid_63, ↓e_S_bid_66, ↓e_S_bid_67, ↓e_S_bid_68, ↓e_S_bid_69, ↓e_S_bid_72, not_true_eq_false, not_false_eq_true, one0, true_or, or_true, eq_self, bI_z, bI_nz, bI_o, b_ft, bI_1, bI_0, ↓kC_l, ↓kC_r, Option.toList_some, Option.toList_none, List.cons_append, List.nil_append, s1_0, s1_1i, s1_1r, s1_1w, s1_1n, s1_s, s2_0, s2_1i, s2_1r, s2_1w, s2_1n, s2_s, gI_sI, gI_sR, gI_sL, gI_sD, gR_sI, gR_sR, gR_sL, gR_sD, gL_sI, gL_sR, gL_sL, gL_sD, gD_sI, gD_sR, gD_sL, gD_sD, isK_sI, isK_sR, isK_sL, isK_sD, inL_sI, inL_sR, inL_sL, inL_sD, nx_sI, nx_sR, nx_sL, nx_sD, kd_sI, kd_sR, kd_sL, kd_sD, ln_sI, ln_sR, ln_sL, ln_sD, ↓reduceIte, c8_n, c8_1, c8_2, c8_3, c8_4, Nat.reduceAdd, k_s S, k_land S, k_nodes S, k_hear S, k_routes S, k_traffic S, k_market S, g_cnt S, r_land S, r_routes S, r_traffic S, r_market S, r_nodes S, r_hear S, r_rland S, r_tland S, r_troutes S, q_isWithin, e1, hr]
  | true =>
    cases e2 : (decide (1 ≤ y) && decide (y ≤ 63)) with
    | false =>
      refine ⟨.inr 0, _, fun Q => ?_, OKs.e (by simp), ref⟩
      simp only [↓e_S_bid_0, ↓e_S_bid_1, ↓e_S_bid_2, ↓e_S_bid_3, ↓e_S_bid_6, ↓e_S_bid_9, ↓e_S_bid_10, ↓e_S_bid_11, ↓e_S_bid_13, ↓e_S_bid_16, ↓e_S_bid_19, ↓e_S_bid_20, ↓e_S_bid_21, ↓e_S_bid_24, ↓e_S_bid_27, ↓e_S_bid_30, ↓e_S_bid_40, ↓e_S_bid_41, ↓e_S_bid_44, ↓e_S_bid_47, ↓e_S_bid_49, ↓e_S_bid_52, ↓e_S_bid_62, ↓e_S_bid_63, ↓e_S_bid_66, ↓e_S_bid_67, ↓e_S_bid_68, ↓e_S_bid_69, ↓e_S_bid_72, not_true_eq_false, not_false_eq_true, one0, true_or, or_true, eq_self, bI_z, bI_nz, bI_o, b_ft, bI_1, bI_0, ↓kC_l, ↓kC_r, Option.toList_some, Option.toList_none, List.cons_append, List.nil_append, s1_0, s1_1i, s1_1r, s1_1w, s1_1n, s1_s, s2_0, s2_1i, s2_1r, s2_1w, s2_1n, s2_s, gI_sI, gI_sR, gI_sL, gI_sD, gR_sI, gR_sR, gR_sL, gR_sD, gL_sI, gL_sR, gL_sL, gL_sD, gD_sI, gD_sR, gD_sL, gD_sD, isK_sI, isK_sR, isK_sL, isK_sD, inL_sI, inL_sR, inL_sL, inL_sD, nx_sI, nx_sR, nx_sL, nx_sD, kd_sI, kd_sR, kd_sL, kd_sD, ln_sI, ln_sR, ln_sL, ln_sD, ↓reduceIte, c8_n, c8_1, c8_2, c8_3, c8_4, Nat.reduceAdd, k_s S, k_land S, k_nodes S, k_hear S, k_routes S, k_traffic S, k_market S, g_cnt S, r_land S, r_routes S, r_traffic S, r_market S, r_nodes S, r_hear S, r_rland S, r_tland S, r_troutes S, q_isWithin, e1, e2, hr]
    | true =>
      cases e3 : (decide (1 ≤ z) && decide (z ≤ 999)) with
      | false =>
        refine ⟨.inr 0, _, fun Q => ?_, OKs.e (by simp), ref⟩
        simp only [↓e_S_bid_0, ↓e_S_bid_1, ↓e_S_bid_2, ↓e_S_bid_3, ↓e_S_bid_6, ↓e_S_bid_9, ↓e_S_bid_10, ↓e_S_bid_11, ↓e_S_bid_13, ↓e_S_bid_16, ↓e_S_bid_19, ↓e_S_bid_20, ↓e_S_bid_21, ↓e_S_bid_24, ↓e_S_bid_27, ↓e_S_bid_30, ↓e_S_bid_40, ↓e_S_bid_41, ↓e_S_bid_44, ↓e_S_bid_47, ↓e_S_bid_49, ↓e_S_bid_52, ↓e_S_bid_62, ↓e_S_bid_63, ↓e_S_bid_66, ↓e_S_bid_67, ↓e_S_bid_68, ↓e_S_bid_69, ↓e_S_bid_72, not_true_eq_false, not_false_eq_true, one0, true_or, or_true, eq_self, bI_z, bI_nz, bI_o, b_ft, bI_1, bI_0, ↓kC_l, ↓kC_r, Option.toList_some, Option.toList_none, List.cons_append, List.nil_append, s1_0, s1_1i, s1_1r, s1_1w, s1_1n, s1_s, s2_0, s2_1i, s2_1r, s2_1w, s2_1n, s2_s, gI_sI, gI_sR, gI_sL, gI_sD, gR_sI, gR_sR, gR_sL, gR_sD, gL_sI, gL_sR, gL_sL, gL_sD, gD_sI, gD_sR, gD_sL, gD_sD, isK_sI, isK_sR, isK_sL, isK_sD, inL_sI, inL_sR, inL_sL, inL_sD, nx_sI, nx_sR, nx_sL, nx_sD, kd_sI, kd_sR, kd_sL, kd_sD, ln_sI, ln_sR, ln_sL, ln_sD, ↓reduceIte, c8_n, c8_1, c8_2, c8_3, c8_4, Nat.reduceAdd, k_s S, k_land S, k_nodes S, k_hear S, k_routes S, k_traffic S, k_market S, g_cnt S, r_land S, r_routes S, r_traffic S, r_market S, r_nodes S, r_hear S, r_rland S, r_tland S, r_troutes S, q_isWithin, e1, e2, e3, hr]
      | true =>
        obtain ⟨a, a1, rfl⟩ := i32_cases (b := 4) (by omega) e1
        obtain ⟨b, b1, b2, rfl⟩ := i32_cases1 (a := 1) (b := 63) (by omega) e2 (by omega)
        obtain ⟨c, c1, c2, rfl⟩ := i32_cases1 (a := 1) (b := 999) (by omega) e3 (by omega)
        obtain ⟨r, h', r1, r2, r3⟩ := s_bid L hB hr (show a < 5 by omega) b1 b2 c1 c2
        refine ⟨r, h', r1, ?_, CC.st L r3 W⟩
        rcases r2 with w | rfl
        · exact Or.inl w
        · exact OKs.e (by simp)
theorem c_sell (L : LV n B T h) (hB : B ≤ 2000) (W : FN n h) : ∃ v h', (∀ Q, WP Gm j_S_sell 0 [some (.inr (.inl (some 1)))] [] h Q = Q (.inl (some (.inl v))) h') ∧ CCg 121 n (T + 1) h h' := by
  obtain ⟨r, h', r1, ⟨v, rfl⟩, r3⟩ := s_sell L hB
  exact ⟨v, h', r1, CC.st L r3 W⟩
end CL
