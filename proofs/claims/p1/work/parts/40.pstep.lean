/-! pstep: what the law needs of a call that may change the country -/
section ST
variable {n B T : Nat} {h : Hp}
def CI (n : Nat) (h : Hp) : Prop := AI n h ∧ ∃ c, c ≤ 10 ∧ gI h 115 5 = ii c ∧ MIv c h
/-- the four counters of each node, in their bounds after B slots -/
def CV (n B : Nat) (h : Hp) : Prop := ∀ x, x < n → ∃ a b p r, gI h (5 + 9 * x) 10 = ii a ∧ gI h (5 + 9 * x) 11 = ii b ∧ gI h (5 + 9 * x) 12 = ii p ∧ gI h (5 + 9 * x) 13 = ii r ∧ a ≤ B ∧ b ≤ B ∧ p ≤ 31 * B ∧ r ≤ B
def SV (n T : Nat) (h : Hp) : Prop := ∀ x, x < n → ∃ s, s ≤ T ∧ gI h (5 + 9 * x) 14 = ii s
def LV (n B T : Nat) (h : Hp) : Prop := CI n h ∧ CV n B h ∧ SV n T h ∧ gI h 114 2 = ii B
def MC (n : Nat) (h h' : Hp) : Prop := ∀ x f, x < n → 10 ≤ f → f ≤ 13 → ∃ a b, gI h (5 + 9 * x) f = ii a ∧ gI h' (5 + 9 * x) f = ii b ∧ a ≤ b ∧ b < 2147483648
/-- what is kept: all from lo on, the country's own cells, the script -/
def KPg (lo : Nat) (h h' : Hp) : Prop := (∀ a k, (a = 0 ∨ a = 1 ∨ lo ≤ a) → a < nx h → gI h' a k = gI h a k ∧ gR h' a k = gR h a k) ∧ (∀ a, a < nx h → kd h' a = kd h a ∧ ln h' a = ln h a) ∧ nx h ≤ nx h' ∧ nx h' ≤ nx h + 1 ∧ sc h' ≤ sc h + 6
/-- the nodes that are not yet set up are as they were -/
def NF (n : Nat) (h h' : Hp) : Prop := ∀ i, n ≤ i → i < 8 → (∀ k, gI h' (5 + 9 * i) k = gI h (5 + 9 * i) k) ∧ (∀ k, gI h' (6 + 9 * i) k = gI h (6 + 9 * i) k) ∧ ∀ k, gL h' (13 + 9 * i) k = gL h (13 + 9 * i) k
theorem NF.fn {n : Nat} {h h' : Hp} (N : NF n h h') (W : FN n h) : FN n h' := fun i h1 h2 => by
  obtain ⟨a, b, c⟩ := N i h1 h2
  obtain ⟨x, y, z⟩ := W i h1 h2
  exact ⟨by rw [b]; exact x, fun k p q r s => by rw [a]; exact y k p q r s, fun k p => by rw [c]; exact z k p⟩
theorem NF.fr {n : Nat} {h h' : Hp} {WI WR WL : Nat → Nat → Prop} (F : Fr WI WR WL h h') (hI : ∀ a k, WI a k → ¬ (5 + 9 * n ≤ a ∧ a < 77)) (hL : ∀ a k, WL a k → ¬ (5 + 9 * n ≤ a ∧ a < 77)) : NF n h h' := fun i h1 h2 =>
  ⟨fun k => F.1 _ _ (fun w => hI _ _ w (by omega)), fun k => F.1 _ _ (fun w => hI _ _ w (by omega)), fun k => F.2.2.1 _ _ (fun w => hL _ _ w (by omega))⟩
def OKr (r : MRes) : Prop := (∃ v, r = .inl (some (.inl v))) ∨ ∃ E, E < 3 ∧ r = .inr E
def STg (lo n B T : Nat) (h h' : Hp) : Prop := ∃ B', B ≤ B' ∧ B' ≤ 2000 ∧ LV n B' (T + 1) h' ∧ MC n h h' ∧ MD h h' ∧ KPg lo h h' ∧ NF n h h'
abbrev ST (n B T : Nat) (h h' : Hp) : Prop := STg 115 n B T h h'
theorem MC.refl (C : CV n B h) (hB : B ≤ 2000) {h' : Hp} (e : ∀ x f, x < n → 10 ≤ f → f ≤ 13 → gI h' (5 + 9 * x) f = gI h (5 + 9 * x) f) : MC n h h' := by
  intro x f hx h1 h2
  rw [e x f hx h1 h2]
  obtain ⟨a, b, p, r, q1, q2, q3, q4, q5, q6, q7, q8⟩ := C x hx
  have : f = 10 ∨ f = 11 ∨ f = 12 ∨ f = 13 := by omega
  rcases this with rfl | rfl | rfl | rfl
  · exact ⟨a, a, q1, q1, Nat.le_refl _, by omega⟩
  · exact ⟨b, b, q2, q2, Nat.le_refl _, by omega⟩
  · exact ⟨p, p, q3, q3, Nat.le_refl _, by omega⟩
  · exact ⟨r, r, q4, q4, Nat.le_refl _, by omega⟩
theorem CV.fr {h' : Hp} (C : CV n B h) (e : ∀ x f, x < n → 10 ≤ f → f ≤ 13 → gI h' (5 + 9 * x) f = gI h (5 + 9 * x) f) : CV n B h' := by
  intro x hx
  obtain ⟨a, b, p, r, q1, q2, q3, q4, q5⟩ := C x hx
  exact ⟨a, b, p, r, by rw [e x 10 hx (by omega) (by omega)]; exact q1, by rw [e x 11 hx (by omega) (by omega)]; exact q2, by rw [e x 12 hx (by omega) (by omega)]; exact q3, by rw [e x 13 hx (by omega) (by omega)]; exact q4, q5⟩
theorem SV.fr {h' : Hp} (C : SV n T h) (e : ∀ x, x < n → gI h' (5 + 9 * x) 14 = gI h (5 + 9 * x) 14) : SV n (T + 1) h' := by
  intro x hx
  obtain ⟨s, s1, s2⟩ := C x hx
  exact ⟨s, by omega, by rw [e x hx]; exact s2⟩
theorem KP.fr {lo : Nat} {WI WR WL : Nat → Nat → Prop} {h' : Hp} (F : Fr WI WR WL h h') (hI : ∀ a k, WI a k → 2 ≤ a ∧ a < lo) (hR : ∀ a k, WR a k → 2 ≤ a ∧ a < lo) : KPg lo h h' :=
  ⟨fun a k ha _ => ⟨F.1 _ _ (fun w => by have := hI _ _ w; omega), F.2.1 _ _ (fun w => by have := hR _ _ w; omega)⟩, fun a _ => ⟨F.2.2.2.1 a, F.2.2.2.2.1 a⟩, Nat.le_of_eq F.2.2.2.2.2.1.symm, by rw [F.2.2.2.2.2.1]; omega, by rw [F.2.2.2.2.2.2]; omega⟩
/-- a call that ends in an exception: nothing else is changed -/
theorem ST.exc {lo : Nat} (L : LV n B T h) (hB : B ≤ 2000) (c : Nat) : STg lo n B T h (hN h c 0 6) := by
  obtain ⟨⟨A, c0, c1, c2, M⟩, C, V, sl⟩ := L
  have hnx : 121 ≤ nx h := A.1.1.1
  have hn := n8 A.1
  have eI : ∀ a k, a < 121 → gI (hN h c 0 6) a k = gI h a k := fun a k ha => by rw [gI_hN, if_neg (by omega)]
  have eL : ∀ a k, a < 121 → gL (hN h c 0 6) a k = gL h a k := fun a k ha => by rw [gL_hN, if_neg (by omega)]
  refine ⟨B, Nat.le_refl _, by omega, ⟨⟨A.ex (Ex.hN h c 0 6), c0, c1, by rw [eI _ _ (by omega)]; exact c2, M.of fun a k p q => eI _ _ q⟩, C.fr fun x f hx _ _ => eI _ _ (by omega), V.fr fun x hx => eI _ _ (by omega), by rw [eI _ _ (by omega)]; exact sl⟩, MC.refl C hB fun x f hx _ _ => eI _ _ (by omega), fun i hi k q => ?_, ⟨fun a k ha hl => ?_, fun a ha => ?_, ?_, ?_, ?_⟩, ?_⟩
  · unfold mb at q ⊢
    rw [eL _ _ (by omega)]
    exact q
  · rw [gI_hN, gR_hN, if_neg (by omega), if_neg (by omega)]; exact ⟨rfl, rfl⟩
  · rw [kd_hN, ln_hN, if_neg (by omega), if_neg (by omega)]; exact ⟨rfl, rfl⟩
  · rw [nx_hN]; omega
  · rw [nx_hN]; exact Nat.le_refl _
  · rw [sc_hN]; exact Nat.le_refl _
  · exact fun i _ h8 => ⟨fun k => eI _ _ (by omega), fun k => eI _ _ (by omega), fun k => eL _ _ (by omega)⟩
/-- a call that writes within the country, no counter and no sent number -/
theorem ST.fr (L : LV n B T h) (hB : B ≤ 2000) {WI WR : Nat → Nat → Prop} {h' : Hp} (F : Fr WI WR nW h h') (hI : ∀ a k, WI a k → 2 ≤ a ∧ a < 115 ∧ ¬ (5 + 9 * n ≤ a ∧ a < 77) ∧ ¬ (a = 114 ∧ k = 2) ∧ ¬ (5 ≤ a ∧ a < 77 ∧ (a - 5) % 9 = 0 ∧ 10 ≤ k ∧ k ≤ 14)) (hR : ∀ a k, WR a k → 2 ≤ a ∧ a < 115) (A' : AI n h') : ST n B T h h' := by
  obtain ⟨⟨A, c0, c1, c2, M⟩, C, V, sl⟩ := L
  have hn := n8 A.1
  have eN : ∀ x f, x < n → 10 ≤ f → f ≤ 14 → gI h' (5 + 9 * x) f = gI h (5 + 9 * x) f := fun x f hx h1 h2 => F.1 _ _ (fun w => by have := hI _ _ w; omega)
  exact ⟨B, Nat.le_refl _, by omega, ⟨⟨A', c0, c1, by rw [F.1 _ _ (fun w => by have := hI _ _ w; omega)]; exact c2, M.of fun a k p q => F.1 _ _ (fun w => by have := hI _ _ w; omega)⟩, C.fr fun x f hx p q => eN x f hx p (by omega), V.fr fun x hx => eN x 14 hx (by omega) (by omega), by rw [F.1 _ _ (fun w => by have := hI _ _ w; omega)]; exact sl⟩, MC.refl C hB fun x f hx p q => eN x f hx p (by omega), MD.fr F, KP.fr F (fun a k w => by have := hI _ _ w; omega) hR, NF.fr F (fun a k w => by have := hI _ _ w; omega) (fun _ _ w => w.elim)⟩
theorem s_move (L : LV n B T h) (hB : B ≤ 2000) (hr : okR cM sM h 1 6 = true) {i x y : Nat} (hi : i < n) (hx : x < 30) (hy : y < 30) : ∃ r h', (∀ Q, WP Gm j_S_move 0 [some (.inr (.inl (some 1))), some (.inl (ii i)), some (.inl (ii x)), some (.inl (ii y))] [] h Q = Q r h') ∧ OKr r ∧ ST n B T h h' := by
  have A := L.1.1
  have S := A.1
  have hn := n8 S
  have hi8 := lt_8 (n8 S) hi
  have pl : ((decide ((0 : Int32) ≤ ii x) && decide (ii x ≤ 29)) && (decide ((0 : Int32) ≤ ii y) && decide (ii y ≤ 29))) = true := by
    have a1 : ((0 : Int32) ≤ ii x) = (0 ≤ x) := ii_le (i := 0) (by omega) (by omega)
    have a2 : (ii x ≤ (29 : Int32)) = (x ≤ 29) := ii_le (j := 29) (by omega) (by omega)
    have a3 : ((0 : Int32) ≤ ii y) = (0 ≤ y) := ii_le (i := 0) (by omega) (by omega)
    have a4 : (ii y ≤ (29 : Int32)) = (y ≤ 29) := ii_le (j := 29) (by omega) (by omega)
    simp only [a1, a2, a3, a4]
    simp
    omega
  by_cases h7 : 0 < gI h (5 + 9 * i) 7
  · refine ⟨.inr 1, _, fun Q => ?_, Or.inr ⟨1, by omega, rfl⟩, ST.exc L hB kc_IllegalStateException⟩
    simp only [↓e_S_move_0, ↓e_S_move_1, ↓e_S_move_2, ↓e_S_move_5, ↓e_S_move_6, ↓e_S_move_7, ↓e_S_move_10, ↓e_S_move_13, ↓e_S_move_23, ↓e_S_move_24, ↓e_S_move_25, ↓e_S_move_28, ↓e_S_move_29, ↓e_S_move_32, ↓e_S_move_33, ↓e_S_move_34, ↓e_S_move_35, ↓e_S_move_38, ↓e_S_move_39, ↓e_S_move_42, ↓e_S_move_43, ↓e_S_move_46, ↓e_S_move_49, not_true_eq_false, not_false_eq_true, one0, true_or, or_true, eq_self, bI_z, bI_nz, bI_o, b_ft, bI_1, bI_0, ↓kC_l, ↓kC_r, Option.toList_some, Option.toList_none, List.cons_append, List.nil_append, s1_0, s1_1i, s1_1r, s1_1w, s1_1n, s1_s, s2_0, s2_1i, s2_1r, s2_1w, s2_1n, s2_s, gI_sI, gI_sR, gI_sL, gI_sD, gR_sI, gR_sR, gR_sL, gR_sD, gL_sI, gL_sR, gL_sL, gL_sD, gD_sI, gD_sR, gD_sL, gD_sD, isK_sI, isK_sR, isK_sL, isK_sD, inL_sI, inL_sR, inL_sL, inL_sD, nx_sI, nx_sR, nx_sL, nx_sD, kd_sI, kd_sR, kd_sL, kd_sD, ln_sI, ln_sR, ln_sL, ln_sD, ↓reduceIte, c8_n, c8_1, c8_2, c8_3, c8_4, Nat.reduceAdd, k_s S, k_land S, k_nodes S, k_hear S, k_routes S, k_traffic S, k_market S, g_cnt S, r_land S, r_routes S, r_traffic S, r_market S, r_nodes S, r_hear S, r_rland S, r_tland S, r_troutes S, q_checkNode _ S hi, q_isPlace, pl, q_checkSilent _ S hi8 hr, h7]
  · obtain ⟨h', r1, r2, r3⟩ := q_landPut A hi8 (ii x) (ii y)
    refine ⟨.inl (some (.inl (pcI (lwF n h' i)))), h', fun Q => ?_, Or.inl ⟨_, rfl⟩, ST.fr L hB r3 (fun a k w => by unfold wXY at w; omega) (fun a k w => w.elim) r2⟩
    simp only [↓e_S_move_0, ↓e_S_move_1, ↓e_S_move_2, ↓e_S_move_5, ↓e_S_move_6, ↓e_S_move_7, ↓e_S_move_10, ↓e_S_move_13, ↓e_S_move_23, ↓e_S_move_24, ↓e_S_move_25, ↓e_S_move_28, ↓e_S_move_29, ↓e_S_move_32, ↓e_S_move_33, ↓e_S_move_34, ↓e_S_move_35, ↓e_S_move_38, ↓e_S_move_39, ↓e_S_move_42, ↓e_S_move_43, ↓e_S_move_46, ↓e_S_move_49, not_true_eq_false, not_false_eq_true, one0, true_or, or_true, eq_self, bI_z, bI_nz, bI_o, b_ft, bI_1, bI_0, ↓kC_l, ↓kC_r, Option.toList_some, Option.toList_none, List.cons_append, List.nil_append, s1_0, s1_1i, s1_1r, s1_1w, s1_1n, s1_s, s2_0, s2_1i, s2_1r, s2_1w, s2_1n, s2_s, gI_sI, gI_sR, gI_sL, gI_sD, gR_sI, gR_sR, gR_sL, gR_sD, gL_sI, gL_sR, gL_sL, gL_sD, gD_sI, gD_sR, gD_sL, gD_sD, isK_sI, isK_sR, isK_sL, isK_sD, inL_sI, inL_sR, inL_sL, inL_sD, nx_sI, nx_sR, nx_sL, nx_sD, kd_sI, kd_sR, kd_sL, kd_sD, ln_sI, ln_sR, ln_sL, ln_sD, ↓reduceIte, c8_n, c8_1, c8_2, c8_3, c8_4, Nat.reduceAdd, k_s S, k_land S, k_nodes S, k_hear S, k_routes S, k_traffic S, k_market S, g_cnt S, r_land S, r_routes S, r_traffic S, r_market S, r_nodes S, r_hear S, r_rland S, r_tland S, r_troutes S, q_checkNode _ S hi, q_isPlace, pl, q_checkSilent _ S hi8 hr, h7, r1, k_s r2.1, k_land r2.1, k_nodes r2.1, k_hear r2.1, k_routes r2.1, k_traffic r2.1, k_market r2.1, g_cnt r2.1, r_land r2.1, r_routes r2.1, r_traffic r2.1, r_market r2.1, r_nodes r2.1, r_hear r2.1, r_rland r2.1, r_tland r2.1, r_troutes r2.1, q_linkedWith _ r2.1 hi8, q_bitCount]
theorem s_tune (L : LV n B T h) (hB : B ≤ 2000) (hr : okR cM sM h 1 6 = true) {i x : Nat} (hi : i < n) (hx1 : 1 ≤ x) (hx : x ≤ 42) {y : Int32} (hy : y = 0 ∨ y = 1) : ∃ r h', (∀ Q, WP Gm j_S_tune 0 [some (.inr (.inl (some 1))), some (.inl (ii i)), some (.inl (ii x)), some (.inl y), none] [] h Q = Q r h') ∧ OKr r ∧ ST n B T h h' := by
  have A := L.1.1
  have S := A.1
  have hn := n8 S
  have hi8 := lt_8 (n8 S) hi
  have pl : (decide ((1 : Int32) ≤ ii x) && decide (ii x ≤ 42)) = true := by
    have a1 : ((1 : Int32) ≤ ii x) = (1 ≤ x) := ii_le (i := 1) (by omega) (by omega)
    have a2 : (ii x ≤ (42 : Int32)) = (x ≤ 42) := ii_le (j := 42) (by omega) (by omega)
    simp only [a1, a2]
    simp
    omega
  by_cases h7 : 0 < gI h (5 + 9 * i) 7
  · refine ⟨.inr 1, _, fun Q => ?_, Or.inr ⟨1, by omega, rfl⟩, ST.exc L hB kc_IllegalStateException⟩
    simp only [↓e_S_tune_0, ↓e_S_tune_1, ↓e_S_tune_2, ↓e_S_tune_5, ↓e_S_tune_6, ↓e_S_tune_9, ↓e_S_tune_12, ↓e_S_tune_22, ↓e_S_tune_23, ↓e_S_tune_24, ↓e_S_tune_27, ↓e_S_tune_28, ↓e_S_tune_31, ↓e_S_tune_34, ↓e_S_tune_35, ↓e_S_tune_36, ↓e_S_tune_39, ↓e_S_tune_41, ↓e_S_tune_42, ↓e_S_tune_45, ↓e_S_tune_46, ↓e_S_tune_47, ↓e_S_tune_48, ↓e_S_tune_51, ↓e_S_tune_53, not_true_eq_false, not_false_eq_true, one0, true_or, or_true, eq_self, bI_z, bI_nz, bI_o, b_ft, bI_1, bI_0, ↓kC_l, ↓kC_r, Option.toList_some, Option.toList_none, List.cons_append, List.nil_append, s1_0, s1_1i, s1_1r, s1_1w, s1_1n, s1_s, s2_0, s2_1i, s2_1r, s2_1w, s2_1n, s2_s, gI_sI, gI_sR, gI_sL, gI_sD, gR_sI, gR_sR, gR_sL, gR_sD, gL_sI, gL_sR, gL_sL, gL_sD, gD_sI, gD_sR, gD_sL, gD_sD, isK_sI, isK_sR, isK_sL, isK_sD, inL_sI, inL_sR, inL_sL, inL_sD, nx_sI, nx_sR, nx_sL, nx_sD, kd_sI, kd_sR, kd_sL, kd_sD, ln_sI, ln_sR, ln_sL, ln_sD, ↓reduceIte, c8_n, c8_1, c8_2, c8_3, c8_4, Nat.reduceAdd, k_s S, k_land S, k_nodes S, k_hear S, k_routes S, k_traffic S, k_market S, g_cnt S, r_land S, r_routes S, r_traffic S, r_market S, r_nodes S, r_hear S, r_rland S, r_tland S, r_troutes S, q_checkNode _ S hi, q_isReach, pl, q_checkSilent _ S hi8 hr, h7]
  · obtain ⟨h', r1, r2, r3⟩ := q_landAdjust A hi8 (ii x) hy
    refine ⟨.inl (some (.inl (gI h (5 + 9 * i) 2))), h', fun Q => ?_, Or.inl ⟨_, rfl⟩, ST.fr L hB r3 (fun a k w => by unfold wXY at w; omega) (fun a k w => w.elim) r2⟩
    simp only [↓e_S_tune_0, ↓e_S_tune_1, ↓e_S_tune_2, ↓e_S_tune_5, ↓e_S_tune_6, ↓e_S_tune_9, ↓e_S_tune_12, ↓e_S_tune_22, ↓e_S_tune_23, ↓e_S_tune_24, ↓e_S_tune_27, ↓e_S_tune_28, ↓e_S_tune_31, ↓e_S_tune_34, ↓e_S_tune_35, ↓e_S_tune_36, ↓e_S_tune_39, ↓e_S_tune_41, ↓e_S_tune_42, ↓e_S_tune_45, ↓e_S_tune_46, ↓e_S_tune_47, ↓e_S_tune_48, ↓e_S_tune_51, ↓e_S_tune_53, not_true_eq_false, not_false_eq_true, one0, true_or, or_true, eq_self, bI_z, bI_nz, bI_o, b_ft, bI_1, bI_0, ↓kC_l, ↓kC_r, Option.toList_some, Option.toList_none, List.cons_append, List.nil_append, s1_0, s1_1i, s1_1r, s1_1w, s1_1n, s1_s, s2_0, s2_1i, s2_1r, s2_1w, s2_1n, s2_s, gI_sI, gI_sR, gI_sL, gI_sD, gR_sI, gR_sR, gR_sL, gR_sD, gL_sI, gL_sR, gL_sL, gL_sD, gD_sI, gD_sR, gD_sL, gD_sD, isK_sI, isK_sR, isK_sL, isK_sD, inL_sI, inL_sR, inL_sL, inL_sD, nx_sI, nx_sR, nx_sL, nx_sD, kd_sI, kd_sR, kd_sL, kd_sD, ln_sI, ln_sR, ln_sL, ln_sD, ↓reduceIte, c8_n, c8_1, c8_2, c8_3, c8_4, Nat.reduceAdd, k_s S, k_land S, k_nodes S, k_hear S, k_routes S, k_traffic S, k_market S, g_cnt S, r_land S, r_routes S, r_traffic S, r_market S, r_nodes S, r_hear S, r_rland S, r_tland S, r_troutes S, l_nodes S hi8, l_hear S hi8, r_node S hi8, r_queue S hi8, r_set S hi8, r_frames S hi8, r_bits S hi8, k_node S hi8, k_queue S hi8, k_frames S hi8, k_set S hi8, k_bits S hi8, ii_nat (lt31 hi8), q_checkNode _ S hi, q_isReach, pl, q_checkSilent _ S hi8 hr, h7, r1, k_s r2.1, k_land r2.1, k_nodes r2.1, k_hear r2.1, k_routes r2.1, k_traffic r2.1, k_market r2.1, g_cnt r2.1, r_land r2.1, r_routes r2.1, r_traffic r2.1, r_market r2.1, r_nodes r2.1, r_hear r2.1, r_rland r2.1, r_tland r2.1, r_troutes r2.1]
end ST
