/-! xlawa: in values: what leaves them as they are; bid, sell -/
section XLA
variable {τ τ' : Nat → Nat} {n A c B B1 m T : Nat} {K : Int32} {p b9 x9 p9 : Nat → Nat} {h h' : Hp} {α : As}
theorem CA.t (V : CA n h α) (hn : n ≤ 8) (t : Int32) : CA n h (asV α 50 1 t) := by
  obtain ⟨v1, v2, v3, v4, ⟨v5, v6, v7⟩, v8, ⟨c, R, w1, w2, w3⟩, v10, v11⟩ := V
  have e : ∀ a k, (a ≠ 50 ∨ k ≠ 1) → (asV α 50 1 t).1 a k = α.1 a k := fun a k q => asV_n _ _ (by omega)
  refine ⟨fun i hi f h1 h2 => (v1 i hi f h1 h2).trans (e _ _ (by omega)).symm, v2, v3, fun j hj => (v4 j hj).trans (hs_congr (fun a k ha hk => e a k (by omega)) hj).symm, ⟨fun k h1 h2 => (v5 k h1 h2).trans (e _ _ (by omega)).symm, v6.trans (e _ _ (by omega)).symm, v7.trans (e _ _ (by omega)).symm⟩, v8, ⟨c, R, fun i hi j hj => ⟨(w1 i hi j hj).1.trans (e _ _ (by omega)).symm, (w1 i hi j hj).2.trans (e _ _ (by omega)).symm⟩, w2, w3⟩, v10, fun i hi => ?_⟩
  obtain ⟨a1, a2⟩ := v11 i hi
  rw [e i 9 (by omega)]
  refine ⟨a1, fun j hj => ?_⟩
  rw [e (70 + i) j (by omega), e (60 + i) j (by omega)]
  exact a2 j hj
/-- what is paid -/
theorem CA.pay (V : CA n h α) (hn : n ≤ 8) (eI : ∀ a k, 4 ≤ a → a < 115 → gI h' a k = gI h a k) (eR : ∀ a k, a < 115 → gR h' a k = gR h a k) (eL : ∀ a k, a < 77 → gL h' a k = gL h a k) {v : Int32} (e8 : gI h' 115 8 = v) : CA n h' (asV α 50 8 v) := by
  obtain ⟨v1, v2, v3, v4, ⟨v5, v6, v7⟩, v8, v9, v10, v11⟩ := V
  have e : ∀ a k, (a ≠ 50 ∨ k ≠ 8) → (asV α 50 8 v).1 a k = α.1 a k := fun a k q => asV_n _ _ (by omega)
  obtain ⟨c, R, w1, w2, w3⟩ := v9.fr hn (fun a k _ _ => eI _ _ (by omega) (by omega)) (fun k => eR _ _ (by omega))
  refine ⟨fun i hi f h1 h2 => ?_, fun i hi => (v2 i hi).fr (eI _ _ (by omega) (by omega)) (fun a k _ _ => eI _ _ (by omega) (by omega)) (fun k _ => eR _ _ (by omega)), v3.fr fun i k hi hk => eR _ _ (by omega), fun j hj => ?_, ⟨fun k h1 h2 => ?_, ?_, ?_⟩, fun i k hi hk => ?_, ⟨c, R, fun i hi j hj => ⟨(w1 i hi j hj).1.trans (e _ _ (by omega)).symm, (w1 i hi j hj).2.trans (e _ _ (by omega)).symm⟩, w2, w3⟩, v10.fr fun i f _ _ => eI _ _ (by omega) (by omega), fun i hi => ?_⟩
  · rw [eI _ _ (by omega) (by omega), e _ _ (by omega)]; exact v1 i hi f h1 h2
  · rw [eI _ _ (by omega) (by omega), hs_congr (fun a k ha hk => e a k (by omega)) hj]; exact v4 j hj
  · rw [eI _ _ (by omega) (by omega), e _ _ (by omega)]; exact v5 k h1 h2
  · rw [eI _ _ (by omega) (by omega), e _ _ (by omega)]; exact v6
  · rw [e8, asV_s]
  · have := v8 i k hi hk
    unfold mb at this ⊢
    rw [eL _ _ (by omega)]
    exact this
  · obtain ⟨a1, a2⟩ := v11 i hi
    rw [e i 9 (by omega)]
    refine ⟨a1, fun j hj => ?_⟩
    rw [e (70 + i) j (by omega), e (60 + i) j (by omega)]
    exact a2 j hj
/-- nothing of the country's nodes is changed -/
def KA (h h' : Hp) : Prop := (∀ a k, 4 ≤ a → a < 115 → gI h' a k = gI h a k) ∧ gI h' 115 8 = gI h 115 8 ∧ (∀ a k, a < 115 → gR h' a k = gR h a k) ∧ ∀ a k, a < 77 → gL h' a k = gL h a k
theorem KA.refl (h : Hp) : KA h h := ⟨fun _ _ _ _ => rfl, rfl, fun _ _ _ => rfl, fun _ _ _ => rfl⟩
theorem KA.ex (E : Ex h h') (hx : 121 ≤ nx h) : KA h h' := ⟨fun a k _ _ => (E.1 a k (by omega)).1, (E.1 _ _ (by omega)).1, fun a k _ => (E.1 a k (by omega)).2.1, fun a k _ => (E.1 a k (by omega)).2.2⟩
theorem KA.exc (hx : 121 ≤ nx h) (c : Nat) : KA h (hN h c 0 6) := KA.ex (Ex.hN h c 0 6) hx
theorem KA.sL (Y : KA h h') (k : Nat) (v : Int64) : KA h (sL h' 125 k v) := ⟨Y.1, Y.2.1, Y.2.2.1, fun a k ha => by rw [gL_sL, if_neg (by omega)]; exact Y.2.2.2 a k ha⟩
theorem KA.sD (Y : KA h h') (a k : Nat) (v : UInt64) : KA h (sD h' a k v) := Y
theorem CA.ka (V : CA n h α) (hn : n ≤ 8) (Y : KA h h') : CA n h' α := V.same hn Y.1 Y.2.1 Y.2.2.1 Y.2.2.2
theorem CA.sL (V : CA n h α) (hn : n ≤ 8) (k : Nat) (v : Int64) : CA n (sL h 125 k v) α := V.ka hn ((KA.refl h).sL k v)
theorem cc_n8 {lo : Nat} (C : CCg lo m T h h') : m ≤ 8 := by
  obtain ⟨⟨B', -, L⟩, -⟩ := C
  exact n8 L.1.1.1
theorem RA.noL (V : RA τ n p c B h α) (g : Nat → Nat → Int64) : RA τ n p c B (h.1, h.2.1, g, h.2.2.2) α := V
theorem RA.cls {lo : Nat} (V : RA τ n p c B h α) (R : RM τ n p A c B1 K h) (C : CCg lo m T h h') (hlo : lo ≤ 121 := by decide) : RA τ n p c B h' α := by
  obtain ⟨-, -, -, c1, c2, c3, -, -⟩ := C
  have F := R.F
  have X : Ext τ h τ (h'.1, h'.2.1, h.2.2.1, h'.2.2.2) := ⟨fun x hx => ⟨rfl, c2 x hx⟩, c3⟩
  have G : Ag τ (fun s => s = 0 ∨ s = 1) h (h'.1, h'.2.1, h.2.2.1, h'.2.2.2) := fun z hz k => by
    have hlt : z < nx h := F.lt fun w => hz (Or.inr w)
    have h121 : 121 ≤ z := Nat.le_of_not_lt fun w => hz (Or.inl (F.2.2.1 z w))
    obtain ⟨a1, a2⟩ := c1 z k (Or.inr (Nat.le_trans hlo h121)) hlt
    exact ⟨a1, a2, rfl⟩
  have V1 : RA τ n p c B (h'.1, h'.2.1, h.2.2.1, h'.2.2.2) α := V.fr R X G (by omega)
  exact V1.noL h'.2.2.1
/-- after a question of the reference -/
def Jt (τ : Nat → Nat) (h h' : Hp) : Prop := (∃ t g, (g = sI h 121 0 t ∨ g = sI (sI h 121 0 0) 121 0 t) ∧ Jk τ g h') ∧ nx h' ≤ nx h + 1000 ∧ sc h' ≤ sc h + 7000
theorem Jt.t0 (τ : Nat → Nat) (h : Hp) : Jt τ h (sI h 121 0 0) := ⟨⟨0, _, Or.inl rfl, Jk.refl τ _⟩, by show nx h ≤ _; omega, by show sc h ≤ _; omega⟩
theorem Jt.t2 (τ : Nat → Nat) (h : Hp) (t : Int32) : Jt τ h (sI (sI h 121 0 0) 121 0 t) := ⟨⟨t, _, Or.inr rfl, Jk.refl τ _⟩, by show nx h ≤ _; omega, by show sc h ≤ _; omega⟩
theorem Jt.j (J : Jk τ (sI h 121 0 0) h') (h1 : nx h' ≤ nx h + 1000) (h2 : sc h' ≤ sc h + 7000) : Jt τ h h' := ⟨⟨0, _, Or.inl rfl, J⟩, h1, h2⟩
theorem MoA.jt (R : RM τ n p (8 * B) c B K h) (V : RA τ n p c B h α) (VB : BB τ b9 x9 p9 m h) (J : Jt τ h h') : MoA τ n c B K b9 x9 p9 m α h h' := by
  obtain ⟨⟨t, g, hg, J⟩, h1, h2⟩ := J
  have R0 : RM τ n p (8 * B) c B K (sI h 121 0 0) := R.th
  have key : Sw τ h g ∧ RA τ n p c B g (asV α 50 1 t) := by
    rcases hg with rfl | rfl
    · exact ⟨R.sth t, V.th R t⟩
    · have := (V.th R 0).th R0 t
      rw [asV_same] at this
      exact ⟨R.sth2 0 t, this⟩
  have S := key.1.trans J.sw
  exact MoA.mkt (R.sw S) S.1 R.F S.s0 VB (key.2.jk (R.sw key.1) J) h1 (by omega)
theorem qj_mauction (R : RM τ n p (8 * B) c B K h) (hn1 : nx h + 1000 ≤ 580300) (hs1 : sc h + 7000 ≤ 5700000) (x : Int32) :
    ∃ v h', (∀ Q, WP Gm j_Mdl_auction 0 [some (.inr (.inl (some 121))), some (.inl x)] [] h Q = Q (.inl (some (.inl v))) h') ∧ Jt τ h h' := by
  have R0 : RM τ n p (8 * B) c B K (sI h 121 0 0) := R.th
  cases e1 : (decide (0 ≤ x) && decide (x ≤ 6)) with
  | false =>
    refine ⟨0, sI (sI h 121 0 0) 121 0 1, fun Q => ?_, Jt.t2 τ h 1⟩
    simp only [↓e_Mdl_auction_0, ↓e_Mdl_auction_1, ↓e_Mdl_auction_2, ↓e_Mdl_auction_3, ↓e_Mdl_auction_5, ↓e_Mdl_auction_8, ↓e_Mdl_auction_11, ↓e_Mdl_auction_12, ↓e_Mdl_auction_15, ↓e_Mdl_auction_16, ↓e_Mdl_auction_17, ↓e_Mdl_auction_20, ↓e_Mdl_auction_23, ↓e_Mdl_auction_24, ↓e_Mdl_auction_27, ↓e_Mdl_auction_28, ↓e_Mdl_auction_31, ↓e_Mdl_auction_32, ↓e_Mdl_auction_33, not_true_eq_false, not_false_eq_true, one0, true_or, or_true, eq_self, bI_z, bI_nz, bI_o, b_ft, bI_1, bI_0, ↓kC_l, ↓kC_r, Option.toList_some, Option.toList_none, List.cons_append, List.nil_append, s1_0, s1_1i, s1_1r, s1_1w, s1_1n, s1_s, s2_0, s2_1i, s2_1r, s2_1w, s2_1n, s2_s, gI_sI, gI_sR, gI_sL, gI_sD, gR_sI, gR_sR, gR_sL, gR_sD, gL_sI, gL_sR, gL_sL, gL_sD, gD_sI, gD_sR, gD_sL, gD_sD, isK_sI, isK_sR, isK_sL, isK_sD, inL_sI, inL_sR, inL_sL, inL_sD, nx_sI, nx_sR, nx_sL, nx_sD, kd_sI, kd_sR, kd_sL, kd_sD, ln_sI, ln_sR, ln_sL, ln_sD, ↓reduceIte, c8_n, c8_1, c8_2, c8_3, c8_4, Nat.reduceAdd, R.k, q_misIn, e1, q_stT _ R]
  | true =>
    obtain ⟨b, b1, rfl⟩ := i32_cases (b := 6) (by omega) e1
    obtain ⟨g, g1, N⟩ := q_aucNow R0 (by show nx h + 10 ≤ _; omega) (by show sc h + 10 ≤ _; omega)
    have ib : inL g (nx h) (ii b) = true := N.in (show b < 7 by omega) (by omega)
    have kg : isK g (nx h) 100 = true := N.2.2.1
    have sw : Sw τ h g := (R.sth 0).trans N.2.2.2.2.sw
    have n1 : nx g = nx h + 1 := N.1
    have s1 : sc g = sc h + 7 := N.2.1
    refine ⟨gI g (nx h) b, g, fun Q => ?_, Jt.j N.2.2.2.2 (by omega) (by omega)⟩
    simp only [↓e_Mdl_auction_0, ↓e_Mdl_auction_1, ↓e_Mdl_auction_2, ↓e_Mdl_auction_3, ↓e_Mdl_auction_5, ↓e_Mdl_auction_8, ↓e_Mdl_auction_11, ↓e_Mdl_auction_12, ↓e_Mdl_auction_15, ↓e_Mdl_auction_16, ↓e_Mdl_auction_17, ↓e_Mdl_auction_20, ↓e_Mdl_auction_23, ↓e_Mdl_auction_24, ↓e_Mdl_auction_27, ↓e_Mdl_auction_28, ↓e_Mdl_auction_31, ↓e_Mdl_auction_32, ↓e_Mdl_auction_33, not_true_eq_false, not_false_eq_true, one0, true_or, or_true, eq_self, bI_z, bI_nz, bI_o, b_ft, bI_1, bI_0, ↓kC_l, ↓kC_r, Option.toList_some, Option.toList_none, List.cons_append, List.nil_append, s1_0, s1_1i, s1_1r, s1_1w, s1_1n, s1_s, s2_0, s2_1i, s2_1r, s2_1w, s2_1n, s2_s, gI_sI, gI_sR, gI_sL, gI_sD, gR_sI, gR_sR, gR_sL, gR_sD, gL_sI, gL_sR, gL_sL, gL_sD, gD_sI, gD_sR, gD_sL, gD_sD, isK_sI, isK_sR, isK_sL, isK_sD, inL_sI, inL_sR, inL_sL, inL_sD, nx_sI, nx_sR, nx_sL, nx_sD, kd_sI, kd_sR, kd_sL, kd_sD, ln_sI, ln_sR, ln_sL, ln_sD, ↓reduceIte, c8_n, c8_1, c8_2, c8_3, c8_4, Nat.reduceAdd, R.k, q_misIn, e1, q_stF _ R, R0.k, g1, kg, ib, ii_nat (show b < 2147483648 by omega)]
theorem qj_mair (R : RM τ n p (8 * B) c B K h) (hn1 : nx h + 1000 ≤ 580300) (hs1 : sc h + 7000 ≤ 5700000) (x : Int32) :
    ∃ v h', (∀ Q, WP Gm j_Mdl_air 0 [some (.inr (.inl (some 121))), some (.inl x)] [] h Q = Q (.inl (some (.inl v))) h') ∧ Jt τ h h' := by
  have R0 : RM τ n p (8 * B) c B K (sI h 121 0 0) := R.th
  cases e1 : (decide (0 ≤ x) && decide (x ≤ 12)) with
  | false =>
    refine ⟨0, sI (sI h 121 0 0) 121 0 1, fun Q => ?_, Jt.t2 τ h 1⟩
    simp only [↓e_Mdl_air_0, ↓e_Mdl_air_1, ↓e_Mdl_air_2, ↓e_Mdl_air_3, ↓e_Mdl_air_5, ↓e_Mdl_air_8, ↓e_Mdl_air_11, ↓e_Mdl_air_12, ↓e_Mdl_air_15, ↓e_Mdl_air_16, ↓e_Mdl_air_17, ↓e_Mdl_air_20, ↓e_Mdl_air_23, ↓e_Mdl_air_24, ↓e_Mdl_air_27, ↓e_Mdl_air_28, ↓e_Mdl_air_29, ↓e_Mdl_air_32, not_true_eq_false, not_false_eq_true, one0, true_or, or_true, eq_self, bI_z, bI_nz, bI_o, b_ft, bI_1, bI_0, ↓kC_l, ↓kC_r, Option.toList_some, Option.toList_none, List.cons_append, List.nil_append, s1_0, s1_1i, s1_1r, s1_1w, s1_1n, s1_s, s2_0, s2_1i, s2_1r, s2_1w, s2_1n, s2_s, gI_sI, gI_sR, gI_sL, gI_sD, gR_sI, gR_sR, gR_sL, gR_sD, gL_sI, gL_sR, gL_sL, gL_sD, gD_sI, gD_sR, gD_sL, gD_sD, isK_sI, isK_sR, isK_sL, isK_sD, inL_sI, inL_sR, inL_sL, inL_sD, nx_sI, nx_sR, nx_sL, nx_sD, kd_sI, kd_sR, kd_sL, kd_sD, ln_sI, ln_sR, ln_sL, ln_sD, ↓reduceIte, c8_n, c8_1, c8_2, c8_3, c8_4, Nat.reduceAdd, R.k, q_misIn, e1, q_stT _ R]
  | true =>
    obtain ⟨w, w1, rfl⟩ := i32_cases (b := 12) (by omega) e1
    obtain ⟨v, g, g1, J, n1, s1⟩ := q_mairTold R0 w1 (by show nx h + 10 ≤ _; omega) (by show sc h + 30 ≤ _; omega)
    have n1' : nx g = nx h + 2 := n1
    have s1' : sc g = sc h + 17 := s1
    refine ⟨v, g, fun Q => ?_, Jt.j J (by omega) (by omega)⟩
    simp only [↓e_Mdl_air_0, ↓e_Mdl_air_1, ↓e_Mdl_air_2, ↓e_Mdl_air_3, ↓e_Mdl_air_5, ↓e_Mdl_air_8, ↓e_Mdl_air_11, ↓e_Mdl_air_12, ↓e_Mdl_air_15, ↓e_Mdl_air_16, ↓e_Mdl_air_17, ↓e_Mdl_air_20, ↓e_Mdl_air_23, ↓e_Mdl_air_24, ↓e_Mdl_air_27, ↓e_Mdl_air_28, ↓e_Mdl_air_29, ↓e_Mdl_air_32, not_true_eq_false, not_false_eq_true, one0, true_or, or_true, eq_self, bI_z, bI_nz, bI_o, b_ft, bI_1, bI_0, ↓kC_l, ↓kC_r, Option.toList_some, Option.toList_none, List.cons_append, List.nil_append, s1_0, s1_1i, s1_1r, s1_1w, s1_1n, s1_s, s2_0, s2_1i, s2_1r, s2_1w, s2_1n, s2_s, gI_sI, gI_sR, gI_sL, gI_sD, gR_sI, gR_sR, gR_sL, gR_sD, gL_sI, gL_sR, gL_sL, gL_sD, gD_sI, gD_sR, gD_sL, gD_sD, isK_sI, isK_sR, isK_sL, isK_sD, inL_sI, inL_sR, inL_sL, inL_sD, nx_sI, nx_sR, nx_sL, nx_sD, kd_sI, kd_sR, kd_sL, kd_sD, ln_sI, ln_sR, ln_sL, ln_sD, ↓reduceIte, c8_n, c8_1, c8_2, c8_3, c8_4, Nat.reduceAdd, R.k, q_misIn, e1, q_stF _ R, R0.k, g1]
theorem qj_mcover (R : RM τ n p (8 * B) c B K h) (hn1 : nx h + 1000 ≤ 580300) (hs1 : sc h + 7000 ≤ 5700000) :
    ∃ v h', (∀ Q, WP Gm j_Mdl_cover 0 [some (.inr (.inl (some 121)))] [] h Q = Q (.inl (some (.inl v))) h') ∧ Jt τ h h' := by
  have R0 : RM τ n p (8 * B) c B K (sI h 121 0 0) := R.th
  obtain ⟨v, hv⟩ := q_mcoverNow R0
  refine ⟨v, sI h 121 0 0, fun Q => ?_, Jt.t0 τ h⟩
  simp only [↓e_Mdl_cover_0, ↓e_Mdl_cover_1, ↓e_Mdl_cover_2, ↓e_Mdl_cover_5, ↓e_Mdl_cover_6, ↓e_Mdl_cover_9, not_true_eq_false, not_false_eq_true, one0, true_or, or_true, eq_self, bI_z, bI_nz, bI_o, b_ft, bI_1, bI_0, ↓kC_l, ↓kC_r, Option.toList_some, Option.toList_none, List.cons_append, List.nil_append, s1_0, s1_1i, s1_1r, s1_1w, s1_1n, s1_s, s2_0, s2_1i, s2_1r, s2_1w, s2_1n, s2_s, gI_sI, gI_sR, gI_sL, gI_sD, gR_sI, gR_sR, gR_sL, gR_sD, gL_sI, gL_sR, gL_sL, gL_sD, gD_sI, gD_sR, gD_sL, gD_sD, isK_sI, isK_sR, isK_sL, isK_sD, inL_sI, inL_sR, inL_sL, inL_sD, nx_sI, nx_sR, nx_sL, nx_sD, kd_sI, kd_sR, kd_sL, kd_sD, ln_sI, ln_sR, ln_sL, ln_sD, ↓reduceIte, c8_n, c8_1, c8_2, c8_3, c8_4, Nat.reduceAdd, R.k, R0.k, hv]
theorem qj_misSound (R : RM τ n p (8 * B) c B K h) (hn1 : nx h + 1000 ≤ 580300) (hs1 : sc h + 7000 ≤ 5700000) :
    ∃ v h', (∀ Q, WP Gm j_Mdl_isSound 0 [some (.inr (.inl (some 121)))] [] h Q = Q (.inl (some (.inl v))) h') ∧ Jt τ h h' := by
  have R0 : RM τ n p (8 * B) c B K (sI h 121 0 0) := R.th
  obtain ⟨b, g, g1, J, n1, s1⟩ := q_misWhole R0 (by show nx h + 10 ≤ _; omega) (by show sc h + 20 ≤ _; omega)
  have n1' : nx g ≤ nx h + 2 := n1
  have s1' : sc g ≤ sc h + 11 := s1
  refine ⟨bI b, g, fun Q => ?_, Jt.j J (by omega) (by omega)⟩
  simp only [↓e_Mdl_isSound_0, ↓e_Mdl_isSound_1, ↓e_Mdl_isSound_2, ↓e_Mdl_isSound_5, ↓e_Mdl_isSound_6, ↓e_Mdl_isSound_9, not_true_eq_false, not_false_eq_true, one0, true_or, or_true, eq_self, bI_z, bI_nz, bI_o, b_ft, bI_1, bI_0, ↓kC_l, ↓kC_r, Option.toList_some, Option.toList_none, List.cons_append, List.nil_append, s1_0, s1_1i, s1_1r, s1_1w, s1_1n, s1_s, s2_0, s2_1i, s2_1r, s2_1w, s2_1n, s2_s, gI_sI, gI_sR, gI_sL, gI_sD, gR_sI, gR_sR, gR_sL, gR_sD, gL_sI, gL_sR, gL_sL, gL_sD, gD_sI, gD_sR, gD_sL, gD_sD, isK_sI, isK_sR, isK_sL, isK_sD, inL_sI, inL_sR, inL_sL, inL_sD, nx_sI, nx_sR, nx_sL, nx_sD, kd_sI, kd_sR, kd_sL, kd_sD, ln_sI, ln_sR, ln_sL, ln_sD, ↓reduceIte, c8_n, c8_1, c8_2, c8_3, c8_4, Nat.reduceAdd, R.k, R0.k, g1]
theorem qj_mfairness (R : RM τ n p (8 * B) c B K h) (hn1 : nx h + 1000 ≤ 580300) (hs1 : sc h + 7000 ≤ 5700000) :
    ∃ v h', (∀ Q, WP Gm j_Mdl_fairness 0 [some (.inr (.inl (some 121)))] [] h Q = Q (.inl (some (.inr (.inr (.inr v))))) h') ∧ Jt τ h h' := by
  have R0 : RM τ n p (8 * B) c B K (sI h 121 0 0) := R.th
  obtain ⟨fx, g, g1, J, n1, s1, -⟩ := q_mfairNow R0 (by show nx h + 1 ≤ _; omega) (by show sc h + 4 ≤ _; omega)
  have n1' : nx g = nx h + 1 := n1
  have s1' : sc g = sc h + 4 := s1
  refine ⟨fx, g, fun Q => ?_, Jt.j J (by omega) (by omega)⟩
  simp only [↓e_Mdl_fairness_0, ↓e_Mdl_fairness_1, ↓e_Mdl_fairness_2, ↓e_Mdl_fairness_5, ↓e_Mdl_fairness_6, ↓e_Mdl_fairness_9, not_true_eq_false, not_false_eq_true, one0, true_or, or_true, eq_self, bI_z, bI_nz, bI_o, b_ft, bI_1, bI_0, ↓kC_l, ↓kC_r, Option.toList_some, Option.toList_none, List.cons_append, List.nil_append, s1_0, s1_1i, s1_1r, s1_1w, s1_1n, s1_s, s2_0, s2_1i, s2_1r, s2_1w, s2_1n, s2_s, gI_sI, gI_sR, gI_sL, gI_sD, gR_sI, gR_sR, gR_sL, gR_sD, gL_sI, gL_sR, gL_sL, gL_sD, gD_sI, gD_sR, gD_sL, gD_sD, isK_sI, isK_sR, isK_sL, isK_sD, inL_sI, inL_sR, inL_sL, inL_sD, nx_sI, nx_sR, nx_sL, nx_sD, kd_sI, kd_sR, kd_sL, kd_sD, ln_sI, ln_sR, ln_sL, ln_sD, ↓reduceIte, c8_n, c8_1, c8_2, c8_3, c8_4, Nat.reduceAdd, R.k, R0.k, g1]
theorem qj_mthroughput (R : RM τ n p (8 * B) c B K h) (hn1 : nx h + 1000 ≤ 580300) (hs1 : sc h + 7000 ≤ 5700000) (x y : Int32) :
    ∃ v h', (∀ Q, WP Gm j_Mdl_throughput 0 [some (.inr (.inl (some 121))), some (.inl x), some (.inl y)] [] h Q = Q (.inl (some (.inr (.inr (.inr v))))) h') ∧ Jt τ h h' ∧ (tpOK x y = true → gI h' 121 0 = 0 ∧ ∃ m c, x = ii m ∧ y = ii c ∧ 1 ≤ m ∧ m ≤ 20 ∧ c ≤ 100 ∧ v = tpF m c) ∧ (tpOK x y = false → gI h' 121 0 = 1) := by
  have R0 : RM τ n p (8 * B) c B K (sI h 121 0 0) := R.th
  cases e1 : (decide (1 ≤ x) && decide (x ≤ 20)) with
  | false =>
    refine ⟨FP.dconst0, sI (sI h 121 0 0) 121 0 1, fun Q => ?_, Jt.t2 τ h 1, fun w => ?_, fun _ => by rw [gI_sI, if_pos ⟨rfl, rfl⟩]⟩
    · simp only [↓e_Mdl_throughput_0, ↓e_Mdl_throughput_1, ↓e_Mdl_throughput_2, ↓e_Mdl_throughput_3, ↓e_Mdl_throughput_5, ↓e_Mdl_throughput_8, ↓e_Mdl_throughput_11, ↓e_Mdl_throughput_12, ↓e_Mdl_throughput_13, ↓e_Mdl_throughput_15, ↓e_Mdl_throughput_18, ↓e_Mdl_throughput_21, ↓e_Mdl_throughput_22, ↓e_Mdl_throughput_25, ↓e_Mdl_throughput_26, ↓e_Mdl_throughput_27, ↓e_Mdl_throughput_30, ↓e_Mdl_throughput_33, ↓e_Mdl_throughput_34, ↓e_Mdl_throughput_37, ↓e_Mdl_throughput_38, ↓e_Mdl_throughput_39, ↓e_Mdl_throughput_42, not_true_eq_false, not_false_eq_true, one0, true_or, or_true, eq_self, bI_z, bI_nz, bI_o, b_ft, bI_1, bI_0, ↓kC_l, ↓kC_r, Option.toList_some, Option.toList_none, List.cons_append, List.nil_append, s1_0, s1_1i, s1_1r, s1_1w, s1_1n, s1_s, s2_0, s2_1i, s2_1r, s2_1w, s2_1n, s2_s, gI_sI, gI_sR, gI_sL, gI_sD, gR_sI, gR_sR, gR_sL, gR_sD, gL_sI, gL_sR, gL_sL, gL_sD, gD_sI, gD_sR, gD_sL, gD_sD, isK_sI, isK_sR, isK_sL, isK_sD, inL_sI, inL_sR, inL_sL, inL_sD, nx_sI, nx_sR, nx_sL, nx_sD, kd_sI, kd_sR, kd_sL, kd_sD, ln_sI, ln_sR, ln_sL, ln_sD, ↓reduceIte, c8_n, c8_1, c8_2, c8_3, c8_4, Nat.reduceAdd, R.k, q_misIn, e1, q_stT _ R]
    · unfold tpOK at w
      rw [e1] at w
      cases w
  | true =>
    cases e2 : (decide (0 ≤ y) && decide (y ≤ 100)) with
    | false =>
      refine ⟨FP.dconst0, sI (sI h 121 0 0) 121 0 1, fun Q => ?_, Jt.t2 τ h 1, fun w => ?_, fun _ => by rw [gI_sI, if_pos ⟨rfl, rfl⟩]⟩
      · simp only [↓e_Mdl_throughput_0, ↓e_Mdl_throughput_1, ↓e_Mdl_throughput_2, ↓e_Mdl_throughput_3, ↓e_Mdl_throughput_5, ↓e_Mdl_throughput_8, ↓e_Mdl_throughput_11, ↓e_Mdl_throughput_12, ↓e_Mdl_throughput_13, ↓e_Mdl_throughput_15, ↓e_Mdl_throughput_18, ↓e_Mdl_throughput_21, ↓e_Mdl_throughput_22, ↓e_Mdl_throughput_25, ↓e_Mdl_throughput_26, ↓e_Mdl_throughput_27, ↓e_Mdl_throughput_30, ↓e_Mdl_throughput_33, ↓e_Mdl_throughput_34, ↓e_Mdl_throughput_37, ↓e_Mdl_throughput_38, ↓e_Mdl_throughput_39, ↓e_Mdl_throughput_42, not_true_eq_false, not_false_eq_true, one0, true_or, or_true, eq_self, bI_z, bI_nz, bI_o, b_ft, bI_1, bI_0, ↓kC_l, ↓kC_r, Option.toList_some, Option.toList_none, List.cons_append, List.nil_append, s1_0, s1_1i, s1_1r, s1_1w, s1_1n, s1_s, s2_0, s2_1i, s2_1r, s2_1w, s2_1n, s2_s, gI_sI, gI_sR, gI_sL, gI_sD, gR_sI, gR_sR, gR_sL, gR_sD, gL_sI, gL_sR, gL_sL, gL_sD, gD_sI, gD_sR, gD_sL, gD_sD, isK_sI, isK_sR, isK_sL, isK_sD, inL_sI, inL_sR, inL_sL, inL_sD, nx_sI, nx_sR, nx_sL, nx_sD, kd_sI, kd_sR, kd_sL, kd_sD, ln_sI, ln_sR, ln_sL, ln_sD, ↓reduceIte, c8_n, c8_1, c8_2, c8_3, c8_4, Nat.reduceAdd, R.k, q_misIn, e1, e2, q_stT _ R]
      · unfold tpOK at w
        rw [e1, e2] at w
        cases w
    | true =>
      obtain ⟨m, m1, m2, rfl⟩ := i32_cases1 (a := 1) (b := 20) (by omega) e1 (by omega)
      obtain ⟨d, d1, rfl⟩ := i32_cases (b := 100) (by omega) e2
      refine ⟨tpF m d, sI h 121 0 0, fun Q => ?_, Jt.t0 τ h, fun _ => ⟨th0 h, m, d, rfl, rfl, m1, m2, d1, rfl⟩, fun w => ?_⟩
      · simp only [↓e_Mdl_throughput_0, ↓e_Mdl_throughput_1, ↓e_Mdl_throughput_2, ↓e_Mdl_throughput_3, ↓e_Mdl_throughput_5, ↓e_Mdl_throughput_8, ↓e_Mdl_throughput_11, ↓e_Mdl_throughput_12, ↓e_Mdl_throughput_13, ↓e_Mdl_throughput_15, ↓e_Mdl_throughput_18, ↓e_Mdl_throughput_21, ↓e_Mdl_throughput_22, ↓e_Mdl_throughput_25, ↓e_Mdl_throughput_26, ↓e_Mdl_throughput_27, ↓e_Mdl_throughput_30, ↓e_Mdl_throughput_33, ↓e_Mdl_throughput_34, ↓e_Mdl_throughput_37, ↓e_Mdl_throughput_38, ↓e_Mdl_throughput_39, ↓e_Mdl_throughput_42, not_true_eq_false, not_false_eq_true, one0, true_or, or_true, eq_self, bI_z, bI_nz, bI_o, b_ft, bI_1, bI_0, ↓kC_l, ↓kC_r, Option.toList_some, Option.toList_none, List.cons_append, List.nil_append, s1_0, s1_1i, s1_1r, s1_1w, s1_1n, s1_s, s2_0, s2_1i, s2_1r, s2_1w, s2_1n, s2_s, gI_sI, gI_sR, gI_sL, gI_sD, gR_sI, gR_sR, gR_sL, gR_sD, gL_sI, gL_sR, gL_sL, gL_sD, gD_sI, gD_sR, gD_sL, gD_sD, isK_sI, isK_sR, isK_sL, isK_sD, inL_sI, inL_sR, inL_sL, inL_sD, nx_sI, nx_sR, nx_sL, nx_sD, kd_sI, kd_sR, kd_sL, kd_sD, ln_sI, ln_sR, ln_sL, ln_sD, ↓reduceIte, c8_n, c8_1, c8_2, c8_3, c8_4, Nat.reduceAdd, R.k, q_misIn, e1, e2, q_stF _ R, q_mtp _ m1 m2 d1]
      · unfold tpOK at w
        rw [e1, e2] at w
        cases w
theorem qj_mbest (R : RM τ n p (8 * B) c B K h) (hn1 : nx h + 1000 ≤ 580300) (hs1 : sc h + 7000 ≤ 5700000) (x : Int32) :
    ∃ v h', (∀ Q, WP Gm j_Mdl_bestChance 0 [some (.inr (.inl (some 121))), some (.inl x), none, none] [] h Q = Q (.inl (some (.inl v))) h') ∧ Jt τ h h' := by
  have R0 : RM τ n p (8 * B) c B K (sI h 121 0 0) := R.th
  cases e1 : (decide (1 ≤ x) && decide (x ≤ 20)) with
  | false =>
    refine ⟨0, sI (sI h 121 0 0) 121 0 1, fun Q => ?_, Jt.t2 τ h 1⟩
    simp only [↓e_Mdl_bestChance_0, ↓e_Mdl_bestChance_1, ↓e_Mdl_bestChance_2, ↓e_Mdl_bestChance_3, ↓e_Mdl_bestChance_5, ↓e_Mdl_bestChance_8, ↓e_Mdl_bestChance_11, ↓e_Mdl_bestChance_12, ↓e_Mdl_bestChance_15, ↓e_Mdl_bestChance_16, ↓e_Mdl_bestChance_17, ↓e_Mdl_bestChance_20, ↓e_Mdl_bestChance_23, ↓e_Mdl_bestChance_24, ↓e_Mdl_bestChance_25, ↓e_Mdl_bestChance_26, ↓e_Mdl_bestChance_27, ↓e_Mdl_bestChance_28, ↓e_Mdl_bestChance_29, ↓e_Mdl_bestChance_30, ↓e_Mdl_bestChance_32, ↓e_Mdl_bestChance_35, ↓e_Mdl_bestChance_36, ↓e_Mdl_bestChance_37, ↓e_Mdl_bestChance_40, ↓e_Mdl_bestChance_41, ↓e_Mdl_bestChance_42, ↓e_Mdl_bestChance_45, ↓e_Mdl_bestChance_46, ↓e_Mdl_bestChance_49, ↓e_Mdl_bestChance_50, ↓e_Mdl_bestChance_51, ↓e_Mdl_bestChance_54, ↓e_Mdl_bestChance_57, ↓e_Mdl_bestChance_58, not_true_eq_false, not_false_eq_true, one0, true_or, or_true, eq_self, bI_z, bI_nz, bI_o, b_ft, bI_1, bI_0, ↓kC_l, ↓kC_r, Option.toList_some, Option.toList_none, List.cons_append, List.nil_append, s1_0, s1_1i, s1_1r, s1_1w, s1_1n, s1_s, s2_0, s2_1i, s2_1r, s2_1w, s2_1n, s2_s, gI_sI, gI_sR, gI_sL, gI_sD, gR_sI, gR_sR, gR_sL, gR_sD, gL_sI, gL_sR, gL_sL, gL_sD, gD_sI, gD_sR, gD_sL, gD_sD, isK_sI, isK_sR, isK_sL, isK_sD, inL_sI, inL_sR, inL_sL, inL_sD, nx_sI, nx_sR, nx_sL, nx_sD, kd_sI, kd_sR, kd_sL, kd_sD, ln_sI, ln_sR, ln_sL, ln_sD, ↓reduceIte, c8_n, c8_1, c8_2, c8_3, c8_4, Nat.reduceAdd, R.k, q_misIn, e1, q_stT _ R]
  | true =>
    obtain ⟨m, m1, m2, rfl⟩ := i32_cases1 (a := 1) (b := 20) (by omega) e1 (by omega)
    refine ⟨ii (bcF m), sI h 121 0 0, fun Q => ?_, Jt.t0 τ h⟩
    rw [← q_mbc Q m1 m2]
    simp only [↓e_Mdl_bestChance_0, ↓e_Mdl_bestChance_1, ↓e_Mdl_bestChance_2, ↓e_Mdl_bestChance_3, ↓e_Mdl_bestChance_5, ↓e_Mdl_bestChance_8, ↓e_Mdl_bestChance_11, ↓e_Mdl_bestChance_12, ↓e_Mdl_bestChance_15, ↓e_Mdl_bestChance_16, ↓e_Mdl_bestChance_17, ↓e_Mdl_bestChance_20, ↓e_Mdl_bestChance_23, ↓e_Mdl_bestChance_24, ↓e_Mdl_bestChance_26, ↓e_Mdl_bestChance_27, ↓e_Mdl_bestChance_28, ↓e_Mdl_bestChance_29, ↓e_Mdl_bestChance_30, ↓e_Mdl_bestChance_32, ↓e_Mdl_bestChance_35, ↓e_Mdl_bestChance_36, ↓e_Mdl_bestChance_37, ↓e_Mdl_bestChance_40, ↓e_Mdl_bestChance_41, ↓e_Mdl_bestChance_42, ↓e_Mdl_bestChance_45, ↓e_Mdl_bestChance_46, ↓e_Mdl_bestChance_49, ↓e_Mdl_bestChance_50, ↓e_Mdl_bestChance_51, ↓e_Mdl_bestChance_54, ↓e_Mdl_bestChance_57, ↓e_Mdl_bestChance_58, not_true_eq_false, not_false_eq_true, one0, true_or, or_true, eq_self, bI_z, bI_nz, bI_o, b_ft, bI_1, bI_0, ↓kC_l, ↓kC_r, Option.toList_some, Option.toList_none, List.cons_append, List.nil_append, s1_0, s1_1i, s1_1r, s1_1w, s1_1n, s1_s, s2_0, s2_1i, s2_1r, s2_1w, s2_1n, s2_s, gI_sI, gI_sR, gI_sL, gI_sD, gR_sI, gR_sR, gR_sL, gR_sD, gL_sI, gL_sR, gL_sL, gL_sD, gD_sI, gD_sR, gD_sL, gD_sD, isK_sI, isK_sR, isK_sL, isK_sD, inL_sI, inL_sR, inL_sL, inL_sD, nx_sI, nx_sR, nx_sL, nx_sD, kd_sI, kd_sR, kd_sL, kd_sD, ln_sI, ln_sR, ln_sL, ln_sD, ↓reduceIte, c8_n, c8_1, c8_2, c8_3, c8_4, Nat.reduceAdd, R.k, q_misIn, e1, q_stF _ R]
theorem qj_mdigest (R : RM τ n p (8 * B) c B K h) (hn1 : nx h + 1000 ≤ 580300) (hs1 : sc h + 7000 ≤ 5700000) :
    ∃ v h', (∀ Q, WP Gm j_Mdl_digest 0 [some (.inr (.inl (some 121))), none, none, none, none, none, none] [] h Q = Q (.inl (some (.inr (.inr (.inl v))))) h') ∧ Jt τ h h' := by
  have hn := R.n8
  have R0 : RM τ n p (8 * B) c B K (sI h 121 0 0) := R.th
  generalize hh0 : sI h 121 0 0 = h0 at *
  have n0 : nx h0 = nx h := by rw [← hh0]; rfl
  have s0 : sc h0 = sc h := by rw [← hh0]; rfl
  have S0' : Sw τ h h0 := by rw [← hh0]; exact R.sth 0
  obtain ⟨⟨d1, g1⟩, e1, D1⟩ := loopR (fun Q k (x : Int64 × Hp) => WP Gm j_Mdl_digest 11 [some (.inr (.inl (some 121))), some (.inr (.inr (.inl x.1))), none, some (.inl (ii k)), none, none, none] [] x.2 Q)
    (fun k x => Dg τ (2 * k) (17 * k) h0 x.2) 13
    (fun k x hk D => by
      obtain ⟨d, g⟩ := x
      dsimp only at D ⊢
      have Rg := R0.sw D.1.sw
      have r1 := D.2.1
      have r2 := D.2.2
      obtain ⟨v, u, u1, J, nu, su⟩ := q_mairTold Rg (show k ≤ 12 by omega) (by omega) (by omega)
      refine ⟨(d * 31 + v.toInt64, u), fun Q => ?_, (D.trans ⟨J, Nat.le_of_eq nu, Nat.le_of_eq su⟩).le (by omega) (by omega)⟩
      dsimp only
      rw [e_Mdl_digest_11]
      simp only [↓e_Mdl_digest_0, ↓e_Mdl_digest_1, ↓e_Mdl_digest_2, ↓e_Mdl_digest_5, ↓e_Mdl_digest_8, ↓e_Mdl_digest_9, ↓e_Mdl_digest_10, ↓e_Mdl_digest_12, ↓e_Mdl_digest_14, ↓e_Mdl_digest_17, ↓e_Mdl_digest_18, ↓e_Mdl_digest_19, ↓e_Mdl_digest_20, ↓e_Mdl_digest_23, ↓e_Mdl_digest_24, ↓e_Mdl_digest_27, ↓e_Mdl_digest_28, ↓e_Mdl_digest_31, ↓e_Mdl_digest_34, ↓e_Mdl_digest_35, ↓e_Mdl_digest_37, ↓e_Mdl_digest_38, ↓e_Mdl_digest_41, ↓e_Mdl_digest_44, ↓e_Mdl_digest_47, ↓e_Mdl_digest_48, ↓e_Mdl_digest_52, ↓e_Mdl_digest_54, ↓e_Mdl_digest_57, ↓e_Mdl_digest_58, ↓e_Mdl_digest_59, ↓e_Mdl_digest_60, ↓e_Mdl_digest_62, ↓e_Mdl_digest_65, ↓e_Mdl_digest_66, ↓e_Mdl_digest_69, ↓e_Mdl_digest_70, ↓e_Mdl_digest_73, ↓e_Mdl_digest_76, ↓e_Mdl_digest_77, ↓e_Mdl_digest_81, ↓e_Mdl_digest_82, ↓e_Mdl_digest_85, ↓e_Mdl_digest_86, ↓e_Mdl_digest_87, ↓e_Mdl_digest_88, ↓e_Mdl_digest_89, ↓e_Mdl_digest_91, ↓e_Mdl_digest_94, ↓e_Mdl_digest_95, ↓e_Mdl_digest_98, ↓e_Mdl_digest_99, ↓e_Mdl_digest_102, ↓e_Mdl_digest_105, ↓e_Mdl_digest_106, ↓e_Mdl_digest_110, ↓e_Mdl_digest_111, ↓e_Mdl_digest_114, ↓e_Mdl_digest_117, ↓e_Mdl_digest_120, ↓e_Mdl_digest_121, ↓e_Mdl_digest_125, ↓e_Mdl_digest_126, ↓e_Mdl_digest_129, ↓e_Mdl_digest_131, ↓e_Mdl_digest_132, ↓e_Mdl_digest_135, ↓e_Mdl_digest_136, ↓e_Mdl_digest_137, ↓e_Mdl_digest_138, ↓e_Mdl_digest_140, ↓e_Mdl_digest_142, ↓e_Mdl_digest_145, ↓e_Mdl_digest_146, ↓e_Mdl_digest_149, ↓e_Mdl_digest_150, ↓e_Mdl_digest_153, ↓e_Mdl_digest_156, ↓e_Mdl_digest_159, ↓e_Mdl_digest_162, ↓e_Mdl_digest_165, ↓e_Mdl_digest_168, ↓e_Mdl_digest_169, ↓e_Mdl_digest_172, ↓e_Mdl_digest_173, ↓e_Mdl_digest_176, ↓e_Mdl_digest_177, ↓e_Mdl_digest_178, ↓e_Mdl_digest_181, ↓e_Mdl_digest_182, ↓e_Mdl_digest_183, ↓e_Mdl_digest_186, ↓e_Mdl_digest_187, ↓e_Mdl_digest_188, ↓e_Mdl_digest_189, ↓e_Mdl_digest_191, ↓e_Mdl_digest_192, ↓e_Mdl_digest_196, ↓e_Mdl_digest_198, ↓e_Mdl_digest_201, ↓e_Mdl_digest_202, ↓e_Mdl_digest_204, ↓e_Mdl_digest_205, ↓e_Mdl_digest_207, ↓e_Mdl_digest_208, ↓e_Mdl_digest_210, ↓e_Mdl_digest_211, ↓e_Mdl_digest_214, ↓e_Mdl_digest_215, ↓e_Mdl_digest_218, ↓e_Mdl_digest_221, ↓e_Mdl_digest_222, ↓e_Mdl_digest_223, ↓e_Mdl_digest_226, ↓e_Mdl_digest_227, ↓e_Mdl_digest_230, ↓e_Mdl_digest_231, ↓e_Mdl_digest_232, ↓e_Mdl_digest_233, ↓e_Mdl_digest_236, ↓e_Mdl_digest_239, ↓e_Mdl_digest_240, ↓e_Mdl_digest_243, not_true_eq_false, not_false_eq_true, one0, true_or, or_true, eq_self, bI_z, bI_nz, bI_o, b_ft, bI_1, bI_0, ↓kC_l, ↓kC_r, Option.toList_some, Option.toList_none, List.cons_append, List.nil_append, s1_0, s1_1i, s1_1r, s1_1w, s1_1n, s1_s, s2_0, s2_1i, s2_1r, s2_1w, s2_1n, s2_s, gI_sI, gI_sR, gI_sL, gI_sD, gR_sI, gR_sR, gR_sL, gR_sD, gL_sI, gL_sR, gL_sL, gL_sD, gD_sI, gD_sR, gD_sL, gD_sD, isK_sI, isK_sR, isK_sL, isK_sD, inL_sI, inL_sR, inL_sL, inL_sD, nx_sI, nx_sR, nx_sL, nx_sD, kd_sI, kd_sR, kd_sL, kd_sD, ln_sI, ln_sR, ln_sL, ln_sD, ↓reduceIte, c8_n, c8_1, c8_2, c8_3, c8_4, Nat.reduceAdd, (show ((13 : Int32) ≤ ii k) = False from lle_f (n := 13) (by omega) hk), Rg.k, u1, q_madd, ii_succ]) 13 0 (7603, h0) (by omega) ⟨Jk.refl τ h0, Nat.le_refl _, Nat.le_refl _⟩
  dsimp only at e1 D1
  obtain ⟨⟨d2, g2, v4, v5⟩, e2, D2⟩ := loopR (fun Q i (x : Int64 × Hp × Option MV × Option MV) => WP Gm j_Mdl_digest 36 [some (.inr (.inl (some 121))), some (.inr (.inr (.inl x.1))), none, some (.inl (ii i)), x.2.2.1, x.2.2.2, none] [] x.2.1 Q)
    (fun i x => Dg τ (26 + 48 * i) (221 + 384 * i) h0 x.2.1) n
    (fun i x hi D => by
      obtain ⟨d, g, w4, w5⟩ := x
      dsimp only at D ⊢
      have Rg := R0.sw D.1.sw
      have r1 := D.2.1
      have r2 := D.2.2
      obtain ⟨d', u, v4, v5, u1, Du⟩ := q_mdNode Rg hi (by omega) (by omega) d w4 w5 none
      exact ⟨(d', u, v4, v5), u1, (D.trans Du).le (by omega) (by omega)⟩) n 0 (d1, g1, none, none) (by omega) (D1.le (by omega) (by omega))
  dsimp only at e2 D2
  have R2 := R0.sw D2.1.sw
  have r21 := D2.2.1
  have r22 := D2.2.2
  obtain ⟨fx, g3, f1, J3, n3, s3, o1, o2, o3⟩ := q_mfairNow R2 (by omega) (by omega)
  have R3 := R2.sw J3.sw
  obtain ⟨g4, a1, N4⟩ := q_aucNow R3 (by omega) (by omega)
  have R4 := R3.sw N4.2.2.2.2.sw
  have n4 := N4.1
  have s4 := N4.2.1
  have k4 := N4.2.2.1
  have l4 := N4.2.2.2.1
  obtain ⟨⟨d5, w6⟩, e5, -⟩ := loopR (fun Q k (x : Int64 × Option MV) => WP Gm j_Mdl_digest 194 [some (.inr (.inl (some 121))), some (.inr (.inr (.inl x.1))), none, some (.inr (.inl (some (nx g3)))), some (.inl (ii 7)), some (.inl (ii k)), x.2] [] g4 Q) (fun _ _ => True) 7
    (fun k x hk _ => by
      obtain ⟨d, w⟩ := x
      have ik : inL g4 (nx g3) (ii k) = true := N4.in hk (by omega)
      refine ⟨(d * 31 + (gI g4 (nx g3) k).toInt64, some (.inl (gI g4 (nx g3) k))), fun Q => ?_, trivial⟩
      dsimp only
      rw [e_Mdl_digest_194]
      simp only [↓e_Mdl_digest_0, ↓e_Mdl_digest_1, ↓e_Mdl_digest_2, ↓e_Mdl_digest_5, ↓e_Mdl_digest_8, ↓e_Mdl_digest_9, ↓e_Mdl_digest_10, ↓e_Mdl_digest_12, ↓e_Mdl_digest_14, ↓e_Mdl_digest_17, ↓e_Mdl_digest_18, ↓e_Mdl_digest_19, ↓e_Mdl_digest_20, ↓e_Mdl_digest_23, ↓e_Mdl_digest_24, ↓e_Mdl_digest_27, ↓e_Mdl_digest_28, ↓e_Mdl_digest_31, ↓e_Mdl_digest_34, ↓e_Mdl_digest_35, ↓e_Mdl_digest_37, ↓e_Mdl_digest_38, ↓e_Mdl_digest_41, ↓e_Mdl_digest_44, ↓e_Mdl_digest_47, ↓e_Mdl_digest_48, ↓e_Mdl_digest_52, ↓e_Mdl_digest_54, ↓e_Mdl_digest_57, ↓e_Mdl_digest_58, ↓e_Mdl_digest_59, ↓e_Mdl_digest_60, ↓e_Mdl_digest_62, ↓e_Mdl_digest_65, ↓e_Mdl_digest_66, ↓e_Mdl_digest_69, ↓e_Mdl_digest_70, ↓e_Mdl_digest_73, ↓e_Mdl_digest_76, ↓e_Mdl_digest_77, ↓e_Mdl_digest_81, ↓e_Mdl_digest_82, ↓e_Mdl_digest_85, ↓e_Mdl_digest_86, ↓e_Mdl_digest_87, ↓e_Mdl_digest_88, ↓e_Mdl_digest_89, ↓e_Mdl_digest_91, ↓e_Mdl_digest_94, ↓e_Mdl_digest_95, ↓e_Mdl_digest_98, ↓e_Mdl_digest_99, ↓e_Mdl_digest_102, ↓e_Mdl_digest_105, ↓e_Mdl_digest_106, ↓e_Mdl_digest_110, ↓e_Mdl_digest_111, ↓e_Mdl_digest_114, ↓e_Mdl_digest_117, ↓e_Mdl_digest_120, ↓e_Mdl_digest_121, ↓e_Mdl_digest_125, ↓e_Mdl_digest_126, ↓e_Mdl_digest_129, ↓e_Mdl_digest_131, ↓e_Mdl_digest_132, ↓e_Mdl_digest_135, ↓e_Mdl_digest_136, ↓e_Mdl_digest_137, ↓e_Mdl_digest_138, ↓e_Mdl_digest_140, ↓e_Mdl_digest_142, ↓e_Mdl_digest_145, ↓e_Mdl_digest_146, ↓e_Mdl_digest_149, ↓e_Mdl_digest_150, ↓e_Mdl_digest_153, ↓e_Mdl_digest_156, ↓e_Mdl_digest_159, ↓e_Mdl_digest_162, ↓e_Mdl_digest_165, ↓e_Mdl_digest_168, ↓e_Mdl_digest_169, ↓e_Mdl_digest_172, ↓e_Mdl_digest_173, ↓e_Mdl_digest_176, ↓e_Mdl_digest_177, ↓e_Mdl_digest_178, ↓e_Mdl_digest_181, ↓e_Mdl_digest_182, ↓e_Mdl_digest_183, ↓e_Mdl_digest_186, ↓e_Mdl_digest_187, ↓e_Mdl_digest_188, ↓e_Mdl_digest_189, ↓e_Mdl_digest_191, ↓e_Mdl_digest_192, ↓e_Mdl_digest_196, ↓e_Mdl_digest_198, ↓e_Mdl_digest_201, ↓e_Mdl_digest_202, ↓e_Mdl_digest_204, ↓e_Mdl_digest_205, ↓e_Mdl_digest_207, ↓e_Mdl_digest_208, ↓e_Mdl_digest_210, ↓e_Mdl_digest_211, ↓e_Mdl_digest_214, ↓e_Mdl_digest_215, ↓e_Mdl_digest_218, ↓e_Mdl_digest_221, ↓e_Mdl_digest_222, ↓e_Mdl_digest_223, ↓e_Mdl_digest_226, ↓e_Mdl_digest_227, ↓e_Mdl_digest_230, ↓e_Mdl_digest_231, ↓e_Mdl_digest_232, ↓e_Mdl_digest_233, ↓e_Mdl_digest_236, ↓e_Mdl_digest_239, ↓e_Mdl_digest_240, ↓e_Mdl_digest_243, not_true_eq_false, not_false_eq_true, one0, true_or, or_true, eq_self, bI_z, bI_nz, bI_o, b_ft, bI_1, bI_0, ↓kC_l, ↓kC_r, Option.toList_some, Option.toList_none, List.cons_append, List.nil_append, s1_0, s1_1i, s1_1r, s1_1w, s1_1n, s1_s, s2_0, s2_1i, s2_1r, s2_1w, s2_1n, s2_s, gI_sI, gI_sR, gI_sL, gI_sD, gR_sI, gR_sR, gR_sL, gR_sD, gL_sI, gL_sR, gL_sL, gL_sD, gD_sI, gD_sR, gD_sL, gD_sD, isK_sI, isK_sR, isK_sL, isK_sD, inL_sI, inL_sR, inL_sL, inL_sD, nx_sI, nx_sR, nx_sL, nx_sD, kd_sI, kd_sR, kd_sL, kd_sD, ln_sI, ln_sR, ln_sL, ln_sD, ↓reduceIte, c8_n, c8_1, c8_2, c8_3, c8_4, Nat.reduceAdd, lle_f (show 7 < 2147483648 by omega) hk, k4, ik, ii_nat (show k < 2147483648 by omega), q_madd, ii_succ]) 7 0 (d2 * 31 + FP.d2l (FP.dmul 4661225614328463360 fx), none) (by omega) trivial
  dsimp only at e5
  obtain ⟨cv, hcv⟩ := q_mcoverNow R4
  obtain ⟨bw, g6, w1, J6, n6, s6⟩ := q_misWhole R4 (by omega) (by omega)
  refine ⟨(d5 * 31 + cv.toInt64) * 31 + (bI bw).toInt64, g6, fun Q => ?_, ⟨⟨0, h0, Or.inl hh0.symm, D2.1.trans (J3.trans (N4.2.2.2.2.trans J6))⟩, by omega, by omega⟩⟩
  have p0 : WP Gm j_Mdl_digest 0 [some (.inr (.inl (some 121))), none, none, none, none, none, none] [] h Q = WP Gm j_Mdl_digest 11 [some (.inr (.inl (some 121))), some (.inr (.inr (.inl 7603))), none, some (.inl (ii 0)), none, none, none] [] h0 Q := by
    simp only [↓e_Mdl_digest_0, ↓e_Mdl_digest_1, ↓e_Mdl_digest_2, ↓e_Mdl_digest_5, ↓e_Mdl_digest_8, ↓e_Mdl_digest_9, ↓e_Mdl_digest_10, ↓e_Mdl_digest_12, ↓e_Mdl_digest_14, ↓e_Mdl_digest_17, ↓e_Mdl_digest_18, ↓e_Mdl_digest_19, ↓e_Mdl_digest_20, ↓e_Mdl_digest_23, ↓e_Mdl_digest_24, ↓e_Mdl_digest_27, ↓e_Mdl_digest_28, ↓e_Mdl_digest_31, ↓e_Mdl_digest_34, ↓e_Mdl_digest_35, ↓e_Mdl_digest_37, ↓e_Mdl_digest_38, ↓e_Mdl_digest_41, ↓e_Mdl_digest_44, ↓e_Mdl_digest_47, ↓e_Mdl_digest_48, ↓e_Mdl_digest_52, ↓e_Mdl_digest_54, ↓e_Mdl_digest_57, ↓e_Mdl_digest_58, ↓e_Mdl_digest_59, ↓e_Mdl_digest_60, ↓e_Mdl_digest_62, ↓e_Mdl_digest_65, ↓e_Mdl_digest_66, ↓e_Mdl_digest_69, ↓e_Mdl_digest_70, ↓e_Mdl_digest_73, ↓e_Mdl_digest_76, ↓e_Mdl_digest_77, ↓e_Mdl_digest_81, ↓e_Mdl_digest_82, ↓e_Mdl_digest_85, ↓e_Mdl_digest_86, ↓e_Mdl_digest_87, ↓e_Mdl_digest_88, ↓e_Mdl_digest_89, ↓e_Mdl_digest_91, ↓e_Mdl_digest_94, ↓e_Mdl_digest_95, ↓e_Mdl_digest_98, ↓e_Mdl_digest_99, ↓e_Mdl_digest_102, ↓e_Mdl_digest_105, ↓e_Mdl_digest_106, ↓e_Mdl_digest_110, ↓e_Mdl_digest_111, ↓e_Mdl_digest_114, ↓e_Mdl_digest_117, ↓e_Mdl_digest_120, ↓e_Mdl_digest_121, ↓e_Mdl_digest_125, ↓e_Mdl_digest_126, ↓e_Mdl_digest_129, ↓e_Mdl_digest_131, ↓e_Mdl_digest_132, ↓e_Mdl_digest_135, ↓e_Mdl_digest_136, ↓e_Mdl_digest_137, ↓e_Mdl_digest_138, ↓e_Mdl_digest_140, ↓e_Mdl_digest_142, ↓e_Mdl_digest_145, ↓e_Mdl_digest_146, ↓e_Mdl_digest_149, ↓e_Mdl_digest_150, ↓e_Mdl_digest_153, ↓e_Mdl_digest_156, ↓e_Mdl_digest_159, ↓e_Mdl_digest_162, ↓e_Mdl_digest_165, ↓e_Mdl_digest_168, ↓e_Mdl_digest_169, ↓e_Mdl_digest_172, ↓e_Mdl_digest_173, ↓e_Mdl_digest_176, ↓e_Mdl_digest_177, ↓e_Mdl_digest_178, ↓e_Mdl_digest_181, ↓e_Mdl_digest_182, ↓e_Mdl_digest_183, ↓e_Mdl_digest_186, ↓e_Mdl_digest_187, ↓e_Mdl_digest_188, ↓e_Mdl_digest_189, ↓e_Mdl_digest_191, ↓e_Mdl_digest_192, ↓e_Mdl_digest_196, ↓e_Mdl_digest_198, ↓e_Mdl_digest_201, ↓e_Mdl_digest_202, ↓e_Mdl_digest_204, ↓e_Mdl_digest_205, ↓e_Mdl_digest_207, ↓e_Mdl_digest_208, ↓e_Mdl_digest_210, ↓e_Mdl_digest_211, ↓e_Mdl_digest_214, ↓e_Mdl_digest_215, ↓e_Mdl_digest_218, ↓e_Mdl_digest_221, ↓e_Mdl_digest_222, ↓e_Mdl_digest_223, ↓e_Mdl_digest_226, ↓e_Mdl_digest_227, ↓e_Mdl_digest_230, ↓e_Mdl_digest_231, ↓e_Mdl_digest_232, ↓e_Mdl_digest_233, ↓e_Mdl_digest_236, ↓e_Mdl_digest_239, ↓e_Mdl_digest_240, ↓e_Mdl_digest_243, not_true_eq_false, not_false_eq_true, one0, true_or, or_true, eq_self, bI_z, bI_nz, bI_o, b_ft, bI_1, bI_0, ↓kC_l, ↓kC_r, Option.toList_some, Option.toList_none, List.cons_append, List.nil_append, s1_0, s1_1i, s1_1r, s1_1w, s1_1n, s1_s, s2_0, s2_1i, s2_1r, s2_1w, s2_1n, s2_s, gI_sI, gI_sR, gI_sL, gI_sD, gR_sI, gR_sR, gR_sL, gR_sD, gL_sI, gL_sR, gL_sL, gL_sD, gD_sI, gD_sR, gD_sL, gD_sD, isK_sI, isK_sR, isK_sL, isK_sD, inL_sI, inL_sR, inL_sL, inL_sD, nx_sI, nx_sR, nx_sL, nx_sD, kd_sI, kd_sR, kd_sL, kd_sD, ln_sI, ln_sR, ln_sL, ln_sD, ↓reduceIte, c8_n, c8_1, c8_2, c8_3, c8_4, Nat.reduceAdd, R.k, hh0]
    rfl
  have p1 : WP Gm j_Mdl_digest 11 [some (.inr (.inl (some 121))), some (.inr (.inr (.inl d1))), none, some (.inl (ii 13)), none, none, none] [] g1 Q = WP Gm j_Mdl_digest 36 [some (.inr (.inl (some 121))), some (.inr (.inr (.inl d1))), none, some (.inl (ii 0)), none, none, none] [] g1 Q := by
    rw [e_Mdl_digest_11]
    simp only [↓e_Mdl_digest_0, ↓e_Mdl_digest_1, ↓e_Mdl_digest_2, ↓e_Mdl_digest_5, ↓e_Mdl_digest_8, ↓e_Mdl_digest_9, ↓e_Mdl_digest_10, ↓e_Mdl_digest_12, ↓e_Mdl_digest_14, ↓e_Mdl_digest_17, ↓e_Mdl_digest_18, ↓e_Mdl_digest_19, ↓e_Mdl_digest_20, ↓e_Mdl_digest_23, ↓e_Mdl_digest_24, ↓e_Mdl_digest_27, ↓e_Mdl_digest_28, ↓e_Mdl_digest_31, ↓e_Mdl_digest_34, ↓e_Mdl_digest_35, ↓e_Mdl_digest_37, ↓e_Mdl_digest_38, ↓e_Mdl_digest_41, ↓e_Mdl_digest_44, ↓e_Mdl_digest_47, ↓e_Mdl_digest_48, ↓e_Mdl_digest_52, ↓e_Mdl_digest_54, ↓e_Mdl_digest_57, ↓e_Mdl_digest_58, ↓e_Mdl_digest_59, ↓e_Mdl_digest_60, ↓e_Mdl_digest_62, ↓e_Mdl_digest_65, ↓e_Mdl_digest_66, ↓e_Mdl_digest_69, ↓e_Mdl_digest_70, ↓e_Mdl_digest_73, ↓e_Mdl_digest_76, ↓e_Mdl_digest_77, ↓e_Mdl_digest_81, ↓e_Mdl_digest_82, ↓e_Mdl_digest_85, ↓e_Mdl_digest_86, ↓e_Mdl_digest_87, ↓e_Mdl_digest_88, ↓e_Mdl_digest_89, ↓e_Mdl_digest_91, ↓e_Mdl_digest_94, ↓e_Mdl_digest_95, ↓e_Mdl_digest_98, ↓e_Mdl_digest_99, ↓e_Mdl_digest_102, ↓e_Mdl_digest_105, ↓e_Mdl_digest_106, ↓e_Mdl_digest_110, ↓e_Mdl_digest_111, ↓e_Mdl_digest_114, ↓e_Mdl_digest_117, ↓e_Mdl_digest_120, ↓e_Mdl_digest_121, ↓e_Mdl_digest_125, ↓e_Mdl_digest_126, ↓e_Mdl_digest_129, ↓e_Mdl_digest_131, ↓e_Mdl_digest_132, ↓e_Mdl_digest_135, ↓e_Mdl_digest_136, ↓e_Mdl_digest_137, ↓e_Mdl_digest_138, ↓e_Mdl_digest_140, ↓e_Mdl_digest_142, ↓e_Mdl_digest_145, ↓e_Mdl_digest_146, ↓e_Mdl_digest_149, ↓e_Mdl_digest_150, ↓e_Mdl_digest_153, ↓e_Mdl_digest_156, ↓e_Mdl_digest_159, ↓e_Mdl_digest_162, ↓e_Mdl_digest_165, ↓e_Mdl_digest_168, ↓e_Mdl_digest_169, ↓e_Mdl_digest_172, ↓e_Mdl_digest_173, ↓e_Mdl_digest_176, ↓e_Mdl_digest_177, ↓e_Mdl_digest_178, ↓e_Mdl_digest_181, ↓e_Mdl_digest_182, ↓e_Mdl_digest_183, ↓e_Mdl_digest_186, ↓e_Mdl_digest_187, ↓e_Mdl_digest_188, ↓e_Mdl_digest_189, ↓e_Mdl_digest_191, ↓e_Mdl_digest_192, ↓e_Mdl_digest_196, ↓e_Mdl_digest_198, ↓e_Mdl_digest_201, ↓e_Mdl_digest_202, ↓e_Mdl_digest_204, ↓e_Mdl_digest_205, ↓e_Mdl_digest_207, ↓e_Mdl_digest_208, ↓e_Mdl_digest_210, ↓e_Mdl_digest_211, ↓e_Mdl_digest_214, ↓e_Mdl_digest_215, ↓e_Mdl_digest_218, ↓e_Mdl_digest_221, ↓e_Mdl_digest_222, ↓e_Mdl_digest_223, ↓e_Mdl_digest_226, ↓e_Mdl_digest_227, ↓e_Mdl_digest_230, ↓e_Mdl_digest_231, ↓e_Mdl_digest_232, ↓e_Mdl_digest_233, ↓e_Mdl_digest_236, ↓e_Mdl_digest_239, ↓e_Mdl_digest_240, ↓e_Mdl_digest_243, not_true_eq_false, not_false_eq_true, one0, true_or, or_true, eq_self, bI_z, bI_nz, bI_o, b_ft, bI_1, bI_0, ↓kC_l, ↓kC_r, Option.toList_some, Option.toList_none, List.cons_append, List.nil_append, s1_0, s1_1i, s1_1r, s1_1w, s1_1n, s1_s, s2_0, s2_1i, s2_1r, s2_1w, s2_1n, s2_s, gI_sI, gI_sR, gI_sL, gI_sD, gR_sI, gR_sR, gR_sL, gR_sD, gL_sI, gL_sR, gL_sL, gL_sD, gD_sI, gD_sR, gD_sL, gD_sD, isK_sI, isK_sR, isK_sL, isK_sD, inL_sI, inL_sR, inL_sL, inL_sD, nx_sI, nx_sR, nx_sL, nx_sD, kd_sI, kd_sR, kd_sL, kd_sD, ln_sI, ln_sR, ln_sL, ln_sD, ↓reduceIte, c8_n, c8_1, c8_2, c8_3, c8_4, Nat.reduceAdd, (show ((13 : Int32) ≤ ii 13) = True from eq_true (by decide))]
    rfl
  have p2 : WP Gm j_Mdl_digest 36 [some (.inr (.inl (some 121))), some (.inr (.inr (.inl d2))), none, some (.inl (ii n)), v4, v5, none] [] g2 Q = WP Gm j_Mdl_digest 194 [some (.inr (.inl (some 121))), some (.inr (.inr (.inl (d2 * 31 + FP.d2l (FP.dmul 4661225614328463360 fx))))), none, some (.inr (.inl (some (nx g3)))), some (.inl (ii 7)), some (.inl (ii 0)), none] [] g4 Q := by
    rw [e_Mdl_digest_36]
    simp only [↓e_Mdl_digest_0, ↓e_Mdl_digest_1, ↓e_Mdl_digest_2, ↓e_Mdl_digest_5, ↓e_Mdl_digest_8, ↓e_Mdl_digest_9, ↓e_Mdl_digest_10, ↓e_Mdl_digest_12, ↓e_Mdl_digest_14, ↓e_Mdl_digest_17, ↓e_Mdl_digest_18, ↓e_Mdl_digest_19, ↓e_Mdl_digest_20, ↓e_Mdl_digest_23, ↓e_Mdl_digest_24, ↓e_Mdl_digest_27, ↓e_Mdl_digest_28, ↓e_Mdl_digest_31, ↓e_Mdl_digest_34, ↓e_Mdl_digest_35, ↓e_Mdl_digest_37, ↓e_Mdl_digest_38, ↓e_Mdl_digest_41, ↓e_Mdl_digest_44, ↓e_Mdl_digest_47, ↓e_Mdl_digest_48, ↓e_Mdl_digest_52, ↓e_Mdl_digest_54, ↓e_Mdl_digest_57, ↓e_Mdl_digest_58, ↓e_Mdl_digest_59, ↓e_Mdl_digest_60, ↓e_Mdl_digest_62, ↓e_Mdl_digest_65, ↓e_Mdl_digest_66, ↓e_Mdl_digest_69, ↓e_Mdl_digest_70, ↓e_Mdl_digest_73, ↓e_Mdl_digest_76, ↓e_Mdl_digest_77, ↓e_Mdl_digest_81, ↓e_Mdl_digest_82, ↓e_Mdl_digest_85, ↓e_Mdl_digest_86, ↓e_Mdl_digest_87, ↓e_Mdl_digest_88, ↓e_Mdl_digest_89, ↓e_Mdl_digest_91, ↓e_Mdl_digest_94, ↓e_Mdl_digest_95, ↓e_Mdl_digest_98, ↓e_Mdl_digest_99, ↓e_Mdl_digest_102, ↓e_Mdl_digest_105, ↓e_Mdl_digest_106, ↓e_Mdl_digest_110, ↓e_Mdl_digest_111, ↓e_Mdl_digest_114, ↓e_Mdl_digest_117, ↓e_Mdl_digest_120, ↓e_Mdl_digest_121, ↓e_Mdl_digest_125, ↓e_Mdl_digest_126, ↓e_Mdl_digest_129, ↓e_Mdl_digest_131, ↓e_Mdl_digest_132, ↓e_Mdl_digest_135, ↓e_Mdl_digest_136, ↓e_Mdl_digest_137, ↓e_Mdl_digest_138, ↓e_Mdl_digest_140, ↓e_Mdl_digest_142, ↓e_Mdl_digest_145, ↓e_Mdl_digest_146, ↓e_Mdl_digest_149, ↓e_Mdl_digest_150, ↓e_Mdl_digest_153, ↓e_Mdl_digest_156, ↓e_Mdl_digest_159, ↓e_Mdl_digest_162, ↓e_Mdl_digest_165, ↓e_Mdl_digest_168, ↓e_Mdl_digest_169, ↓e_Mdl_digest_172, ↓e_Mdl_digest_173, ↓e_Mdl_digest_176, ↓e_Mdl_digest_177, ↓e_Mdl_digest_178, ↓e_Mdl_digest_181, ↓e_Mdl_digest_182, ↓e_Mdl_digest_183, ↓e_Mdl_digest_186, ↓e_Mdl_digest_187, ↓e_Mdl_digest_188, ↓e_Mdl_digest_189, ↓e_Mdl_digest_191, ↓e_Mdl_digest_192, ↓e_Mdl_digest_196, ↓e_Mdl_digest_198, ↓e_Mdl_digest_201, ↓e_Mdl_digest_202, ↓e_Mdl_digest_204, ↓e_Mdl_digest_205, ↓e_Mdl_digest_207, ↓e_Mdl_digest_208, ↓e_Mdl_digest_210, ↓e_Mdl_digest_211, ↓e_Mdl_digest_214, ↓e_Mdl_digest_215, ↓e_Mdl_digest_218, ↓e_Mdl_digest_221, ↓e_Mdl_digest_222, ↓e_Mdl_digest_223, ↓e_Mdl_digest_226, ↓e_Mdl_digest_227, ↓e_Mdl_digest_230, ↓e_Mdl_digest_231, ↓e_Mdl_digest_232, ↓e_Mdl_digest_233, ↓e_Mdl_digest_236, ↓e_Mdl_digest_239, ↓e_Mdl_digest_240, ↓e_Mdl_digest_243, not_true_eq_false, not_false_eq_true, one0, true_or, or_true, eq_self, bI_z, bI_nz, bI_o, b_ft, bI_1, bI_0, ↓kC_l, ↓kC_r, Option.toList_some, Option.toList_none, List.cons_append, List.nil_append, s1_0, s1_1i, s1_1r, s1_1w, s1_1n, s1_s, s2_0, s2_1i, s2_1r, s2_1w, s2_1n, s2_s, gI_sI, gI_sR, gI_sL, gI_sD, gR_sI, gR_sR, gR_sL, gR_sD, gL_sI, gL_sR, gL_sL, gL_sD, gD_sI, gD_sR, gD_sL, gD_sD, isK_sI, isK_sR, isK_sL, isK_sD, inL_sI, inL_sR, inL_sL, inL_sD, nx_sI, nx_sR, nx_sL, nx_sD, kd_sI, kd_sR, kd_sL, kd_sD, ln_sI, ln_sR, ln_sL, ln_sD, ↓reduceIte, c8_n, c8_1, c8_2, c8_3, c8_4, Nat.reduceAdd, R2.k, R2.r9, R2.k122, q_nn _ R2, le_t hn, f1, o2, q_madd, R3.k, a1, k4, l4, ofN]
    rfl
  rw [p0, e1 Q, p1, e2 Q, p2, e5 Q, e_Mdl_digest_194]
  simp only [↓e_Mdl_digest_0, ↓e_Mdl_digest_1, ↓e_Mdl_digest_2, ↓e_Mdl_digest_5, ↓e_Mdl_digest_8, ↓e_Mdl_digest_9, ↓e_Mdl_digest_10, ↓e_Mdl_digest_12, ↓e_Mdl_digest_14, ↓e_Mdl_digest_17, ↓e_Mdl_digest_18, ↓e_Mdl_digest_19, ↓e_Mdl_digest_20, ↓e_Mdl_digest_23, ↓e_Mdl_digest_24, ↓e_Mdl_digest_27, ↓e_Mdl_digest_28, ↓e_Mdl_digest_31, ↓e_Mdl_digest_34, ↓e_Mdl_digest_35, ↓e_Mdl_digest_37, ↓e_Mdl_digest_38, ↓e_Mdl_digest_41, ↓e_Mdl_digest_44, ↓e_Mdl_digest_47, ↓e_Mdl_digest_48, ↓e_Mdl_digest_52, ↓e_Mdl_digest_54, ↓e_Mdl_digest_57, ↓e_Mdl_digest_58, ↓e_Mdl_digest_59, ↓e_Mdl_digest_60, ↓e_Mdl_digest_62, ↓e_Mdl_digest_65, ↓e_Mdl_digest_66, ↓e_Mdl_digest_69, ↓e_Mdl_digest_70, ↓e_Mdl_digest_73, ↓e_Mdl_digest_76, ↓e_Mdl_digest_77, ↓e_Mdl_digest_81, ↓e_Mdl_digest_82, ↓e_Mdl_digest_85, ↓e_Mdl_digest_86, ↓e_Mdl_digest_87, ↓e_Mdl_digest_88, ↓e_Mdl_digest_89, ↓e_Mdl_digest_91, ↓e_Mdl_digest_94, ↓e_Mdl_digest_95, ↓e_Mdl_digest_98, ↓e_Mdl_digest_99, ↓e_Mdl_digest_102, ↓e_Mdl_digest_105, ↓e_Mdl_digest_106, ↓e_Mdl_digest_110, ↓e_Mdl_digest_111, ↓e_Mdl_digest_114, ↓e_Mdl_digest_117, ↓e_Mdl_digest_120, ↓e_Mdl_digest_121, ↓e_Mdl_digest_125, ↓e_Mdl_digest_126, ↓e_Mdl_digest_129, ↓e_Mdl_digest_131, ↓e_Mdl_digest_132, ↓e_Mdl_digest_135, ↓e_Mdl_digest_136, ↓e_Mdl_digest_137, ↓e_Mdl_digest_138, ↓e_Mdl_digest_140, ↓e_Mdl_digest_142, ↓e_Mdl_digest_145, ↓e_Mdl_digest_146, ↓e_Mdl_digest_149, ↓e_Mdl_digest_150, ↓e_Mdl_digest_153, ↓e_Mdl_digest_156, ↓e_Mdl_digest_159, ↓e_Mdl_digest_162, ↓e_Mdl_digest_165, ↓e_Mdl_digest_168, ↓e_Mdl_digest_169, ↓e_Mdl_digest_172, ↓e_Mdl_digest_173, ↓e_Mdl_digest_176, ↓e_Mdl_digest_177, ↓e_Mdl_digest_178, ↓e_Mdl_digest_181, ↓e_Mdl_digest_182, ↓e_Mdl_digest_183, ↓e_Mdl_digest_186, ↓e_Mdl_digest_187, ↓e_Mdl_digest_188, ↓e_Mdl_digest_189, ↓e_Mdl_digest_191, ↓e_Mdl_digest_192, ↓e_Mdl_digest_196, ↓e_Mdl_digest_198, ↓e_Mdl_digest_201, ↓e_Mdl_digest_202, ↓e_Mdl_digest_204, ↓e_Mdl_digest_205, ↓e_Mdl_digest_207, ↓e_Mdl_digest_208, ↓e_Mdl_digest_210, ↓e_Mdl_digest_211, ↓e_Mdl_digest_214, ↓e_Mdl_digest_215, ↓e_Mdl_digest_218, ↓e_Mdl_digest_221, ↓e_Mdl_digest_222, ↓e_Mdl_digest_223, ↓e_Mdl_digest_226, ↓e_Mdl_digest_227, ↓e_Mdl_digest_230, ↓e_Mdl_digest_231, ↓e_Mdl_digest_232, ↓e_Mdl_digest_233, ↓e_Mdl_digest_236, ↓e_Mdl_digest_239, ↓e_Mdl_digest_240, ↓e_Mdl_digest_243, not_true_eq_false, not_false_eq_true, one0, true_or, or_true, eq_self, bI_z, bI_nz, bI_o, b_ft, bI_1, bI_0, ↓kC_l, ↓kC_r, Option.toList_some, Option.toList_none, List.cons_append, List.nil_append, s1_0, s1_1i, s1_1r, s1_1w, s1_1n, s1_s, s2_0, s2_1i, s2_1r, s2_1w, s2_1n, s2_s, gI_sI, gI_sR, gI_sL, gI_sD, gR_sI, gR_sR, gR_sL, gR_sD, gL_sI, gL_sR, gL_sL, gL_sD, gD_sI, gD_sR, gD_sL, gD_sD, isK_sI, isK_sR, isK_sL, isK_sD, inL_sI, inL_sR, inL_sL, inL_sD, nx_sI, nx_sR, nx_sL, nx_sD, kd_sI, kd_sR, kd_sL, kd_sD, ln_sI, ln_sR, ln_sL, ln_sD, ↓reduceIte, c8_n, c8_1, c8_2, c8_3, c8_4, Nat.reduceAdd, lle_t (show 7 < 2147483648 by omega), R4.k, hcv, q_madd, w1, q_mone]
theorem qj_mrow (R : RM τ n p (8 * B) c B K h) (hn1 : nx h + 1000 ≤ 580300) (hs1 : sc h + 7000 ≤ 5700000) :
    ∃ (r : Nat) (h' : Hp), (∀ Q, WP Gm j_Mdl_row 0 [some (.inr (.inl (some 121))), none, none, none] [] h Q = Q (.inl (some (.inr (.inl (some r))))) h') ∧ Jt τ h h' := by
  have hn := R.n8
  have R0 : RM τ n p (8 * B) c B K (sI h 121 0 0) := R.th
  have Sh := R.sth 0
  generalize hh0 : sI h 121 0 0 = h0 at *
  have nn0 : nx h0 = nx h := by rw [← hh0]; rfl
  have ss0 : sc h0 = sc h := by rw [← hh0]; rfl
  have F0 := R0.F
  have f125 := F0.1
  generalize hq : nx h0 = q at *
  have hr : okR cM sM h0 1 4 = true := ok_big (by omega) (by omega)
  generalize hg0 : hN h0 kc_StringBuilder 0 4 = g0
  have k0 : isK g0 q kc_StringBuilder = true := by rw [← hg0, ← hq]; exact isK_new
  have n0 : nx g0 = q + 1 := by rw [← hg0, nx_hN, hq]
  have s0 : sc g0 = sc h0 + 4 := by rw [← hg0]; rfl
  have l0 : Lo9 q h0 g0 := by rw [← hg0]; exact (Lo9.refl q h0).hN (by omega)
  obtain ⟨g1, a1, a2, a3, a4, a5⟩ := q_sbInit k0 n0 (by rw [← hg0, gI_hN, if_pos hq.symm]) (by omega) (by omega)
  have jk : ∀ {g : Hp}, Lo9 q h0 g → Jk τ h0 g := fun L => Jk.lo F0 (by rw [hq]; exact L)
  have l1 : Lo9 q h0 g1 := l0.trans a3
  have R1 := R0.sw (jk l1).sw
  obtain ⟨c0, -, L⟩ := R0.nl
  have hl : ∀ j, ¬ OW (τ 122) j := fun j => by rw [R.t2]; unfold OW; omega
  have Lst0 : ∀ {g : Hp}, Lo9 q h0 g → Lst τ g 122 6 (fun j f => f = p j) n c0 := fun L' => L.sw (jk L').sw hl (by omega)
  obtain ⟨b, Lb, -⟩ := Lst0 l1
  have hr4 : okR cM sM g1 1 4 = true := ok_big (by omega) (by omega)
  have e122 := q_liter (h := g1) (Q := fun _ _ => True) Lb hr4
  generalize hg2 : sI (sI (sR (hN g1 kc_Itr 0 4) (nx g1) 3 (some 122)) (nx g1) 1 (-1)) (nx g1) 2 (gI g1 122 0) = g2
  have it1 : ∀ Q, WP Gm j_ArrayList_iterator 0 [some (.inr (.inl (some 122)))] [] g1 Q = Q (.inl (some (.inr (.inl (some (q + 2)))))) g2 := fun Q => by
    rw [q_liter Q Lb hr4, hg2, a4]
  have S2 : Sb g2 q 0 := by
    obtain ⟨s1, s2, s3, s4, s5, s6, s7⟩ := a2
    have t1 := isK_lt s1
    have t5 := isK_lt s5
    refine ⟨?_, ?_, ?_, ?_, ?_, ?_, fun j hj => absurd hj (by omega)⟩
    · rw [← hg2, isK_sI, isK_sI, isK_sR, isK_hN t1]; exact s1
    · rw [← hg2, gR_sI, gR_sI, gR_sR, if_neg (by omega), gR_hN, if_neg (by omega)]; exact s2
    · rw [← hg2, gI_sI, if_neg (by omega), gI_sI, if_neg (by omega), gI_sR, gI_hN, if_neg (by omega)]; exact s3
    · rw [← hg2, gI_sI, if_neg (by omega), gI_sI, if_neg (by omega), gI_sR, gI_hN, if_neg (by omega)]; exact s4
    · rw [← hg2, isK_sI, isK_sI, isK_sR, isK_hN t5]; exact s5
    · rw [← hg2, ln_sI, ln_sI, ln_sR, ln_hN, if_neg (by omega)]; exact s6
  have I2 : It g2 (q + 2) 122 0 := by
    rw [← a4, ← hg2]
    refine ⟨isK_new, ?_, ?_, ?_, by omega⟩
    · rw [gR_sI, gR_sI, gR_sR, if_pos ⟨rfl, rfl⟩]
    · rw [gI_sI, if_neg (by omega), gI_sI, if_neg (by omega), gI_sR, gI_hN, if_pos rfl]; rfl
    · rw [gI_sI, if_pos ⟨rfl, rfl⟩, gI_sI, if_neg (by omega), gI_sI, if_neg (by omega), gI_sR, gI_hN, if_neg (by omega)]
  have l2 : Lo9 q h0 g2 := by rw [← hg2]; exact (((l1.hN (by omega)).sR (by omega)).sI (by omega)).sI (by omega)
  have n2 : nx g2 = q + 3 := by rw [← hg2]; show nx g1 + 1 = _; omega
  have s2 : sc g2 = sc h0 + 24 := by rw [← hg2]; show sc g1 + 4 = _; omega
  obtain ⟨⟨g, v3⟩, e1, Sg, Ig, Lg, ng, sg⟩ := loopR (fun Q k (x : Hp × Option MV) => WP Gm j_Mdl_row 21 [some (.inr (.inl (some 121))), some (.inr (.inl (some q))), some (.inr (.inl (some (q + 2)))), x.2] [] x.1 Q)
    (fun k x => Sb x.1 q k ∧ It x.1 (q + 2) 122 k ∧ Lo9 q h0 x.1 ∧ nx x.1 = q + 3 ∧ sc x.1 = sc h0 + 24) n
    (fun k x hk hI => by
      obtain ⟨g, v3⟩ := x
      dsimp only at hI ⊢
      obtain ⟨Sg, Ig, Lg, ng, sg⟩ := hI
      have Lsg := Lst0 Lg
      obtain ⟨b, Lb, dd, he⟩ := id Lsg
      obtain ⟨f, f1, f2, f3⟩ := he k hk
      subst f3
      have hx9 : ∀ Q, WP Gm j_Itr_next 0 [some (.inr (.inl (some (q + 2)))), none, none] [] g Q = Q (.inl (some (.inr (.inl (some (p k)))))) (sI (sI g (q + 2) 0 (ii (k + 1))) (q + 2) 1 (ii k)) := fun Q => by rw [q_next Q Lb Ig hk, f1]
      generalize hu : sI (sI g (q + 2) 0 (ii (k + 1))) (q + 2) 1 (ii k) = u at hx9
      have Iu : It u (q + 2) 122 (k + 1) := by rw [← hu]; exact Ig.next (isK_spec Lb.k).2
      have Su : Sb u q k := by rw [← hu]; exact (Sg.sI (by omega) (by omega)).sI (by omega) (by omega)
      have Lu : Lo9 q h0 u := by rw [← hu]; exact (Lg.sI (by omega)).sI (by omega)
      have nu : nx u = q + 3 := by rw [← hu]; exact ng
      have su : sc u = sc h0 + 24 := by rw [← hu]; exact sg
      have Ru := R0.sw (jk Lu).sw
      obtain ⟨N1, -, ⟨kk, c9, k1, -, L1⟩, -⟩ := Ru.nd hk
      have k3 := Ig.1
      have fin : ∀ x, Chr x → (∀ Q, WP Gm j_Mdl_row 21 [some (.inr (.inl (some 121))), some (.inr (.inl (some q))), some (.inr (.inl (some (q + 2)))), v3] [] g Q = WP Gm j_Mdl_row 82 [some (.inr (.inl (some 121))), some (.inr (.inl (some q))), some (.inr (.inl (some (q + 2)))), some (.inr (.inl (some (p k))))] [.inl x, .inr (.inl (some q))] u Q) →
          ∃ a' : Hp × Option MV, (∀ Q, WP Gm j_Mdl_row 21 [some (.inr (.inl (some 121))), some (.inr (.inl (some q))), some (.inr (.inl (some (q + 2)))), v3] [] g Q = WP Gm j_Mdl_row 21 [some (.inr (.inl (some 121))), some (.inr (.inl (some q))), some (.inr (.inl (some (q + 2)))), a'.2] [] a'.1 Q) ∧ Sb a'.1 q (k + 1) ∧ It a'.1 (q + 2) 122 (k + 1) ∧ Lo9 q h0 a'.1 ∧ nx a'.1 = q + 3 ∧ sc a'.1 = sc h0 + 24 := fun x hx e => by
        obtain ⟨y1, y2⟩ := q_sbAppend Su (show k < 9 by omega) hx
        obtain ⟨i1, i2, i3, i4, i5⟩ := Iu
        refine ⟨(sI (sI u q 3 (ii (k + 1))) (q + 1) k x, some (.inr (.inl (some (p k))))), fun Q => ?_, y2, ⟨i1, i2, ?_, ?_, i5⟩, (Lu.sI (Nat.le_refl _)).sI (by omega), nu, su⟩
        · rw [e]
          simp only [↓e_Mdl_row_0, ↓e_Mdl_row_1, ↓e_Mdl_row_2, ↓e_Mdl_row_5, ↓e_Mdl_row_8, ↓e_Mdl_row_9, ↓e_Mdl_row_12, ↓e_Mdl_row_13, ↓e_Mdl_row_14, ↓e_Mdl_row_17, ↓e_Mdl_row_20, ↓e_Mdl_row_22, ↓e_Mdl_row_27, ↓e_Mdl_row_30, ↓e_Mdl_row_31, ↓e_Mdl_row_36, ↓e_Mdl_row_39, ↓e_Mdl_row_40, ↓e_Mdl_row_41, ↓e_Mdl_row_42, ↓e_Mdl_row_45, ↓e_Mdl_row_48, ↓e_Mdl_row_50, ↓e_Mdl_row_53, ↓e_Mdl_row_54, ↓e_Mdl_row_57, ↓e_Mdl_row_60, ↓e_Mdl_row_62, ↓e_Mdl_row_65, ↓e_Mdl_row_66, ↓e_Mdl_row_69, ↓e_Mdl_row_72, ↓e_Mdl_row_75, ↓e_Mdl_row_77, ↓e_Mdl_row_80, ↓e_Mdl_row_82, ↓e_Mdl_row_85, ↓e_Mdl_row_86, ↓e_Mdl_row_89, ↓e_Mdl_row_90, ↓e_Mdl_row_93, ↓f_Mdl_row_82, not_true_eq_false, not_false_eq_true, one0, true_or, or_true, eq_self, bI_z, bI_nz, bI_o, b_ft, bI_1, bI_0, ↓kC_l, ↓kC_r, Option.toList_some, Option.toList_none, List.cons_append, List.nil_append, s1_0, s1_1i, s1_1r, s1_1w, s1_1n, s1_s, s2_0, s2_1i, s2_1r, s2_1w, s2_1n, s2_s, gI_sI, gI_sR, gI_sL, gI_sD, gR_sI, gR_sR, gR_sL, gR_sD, gL_sI, gL_sR, gL_sL, gL_sD, gD_sI, gD_sR, gD_sL, gD_sD, isK_sI, isK_sR, isK_sL, isK_sD, inL_sI, inL_sR, inL_sL, inL_sD, nx_sI, nx_sR, nx_sL, nx_sD, kd_sI, kd_sR, kd_sL, kd_sD, ln_sI, ln_sR, ln_sL, ln_sD, ↓reduceIte, c8_n, c8_1, c8_2, c8_3, c8_4, Nat.reduceAdd, Su.1, y1]
        · dsimp only
          rw [gI_sI, if_neg (by omega), gI_sI, if_neg (by omega)]; exact i3
        · dsimp only
          rw [gI_sI, if_neg (by omega), gI_sI, if_neg (by omega), gI_sI, if_neg (by omega), gI_sI, if_neg (by omega)]; exact i4
      by_cases h7 : 0 < gI u (p k) 7
      · refine fin 84 (Or.inl rfl) fun Q => ?_
        rw [e_Mdl_row_21]
        simp only [↓e_Mdl_row_0, ↓e_Mdl_row_1, ↓e_Mdl_row_2, ↓e_Mdl_row_5, ↓e_Mdl_row_8, ↓e_Mdl_row_9, ↓e_Mdl_row_12, ↓e_Mdl_row_13, ↓e_Mdl_row_14, ↓e_Mdl_row_17, ↓e_Mdl_row_20, ↓e_Mdl_row_22, ↓e_Mdl_row_27, ↓e_Mdl_row_30, ↓e_Mdl_row_31, ↓e_Mdl_row_36, ↓e_Mdl_row_39, ↓e_Mdl_row_40, ↓e_Mdl_row_41, ↓e_Mdl_row_42, ↓e_Mdl_row_45, ↓e_Mdl_row_48, ↓e_Mdl_row_50, ↓e_Mdl_row_53, ↓e_Mdl_row_54, ↓e_Mdl_row_57, ↓e_Mdl_row_60, ↓e_Mdl_row_62, ↓e_Mdl_row_65, ↓e_Mdl_row_66, ↓e_Mdl_row_69, ↓e_Mdl_row_72, ↓e_Mdl_row_75, ↓e_Mdl_row_77, ↓e_Mdl_row_80, ↓e_Mdl_row_85, ↓e_Mdl_row_86, ↓e_Mdl_row_89, ↓e_Mdl_row_90, ↓e_Mdl_row_93, not_true_eq_false, not_false_eq_true, one0, true_or, or_true, eq_self, bI_z, bI_nz, bI_o, b_ft, bI_1, bI_0, ↓kC_l, ↓kC_r, Option.toList_some, Option.toList_none, List.cons_append, List.nil_append, s1_0, s1_1i, s1_1r, s1_1w, s1_1n, s1_s, s2_0, s2_1i, s2_1r, s2_1w, s2_1n, s2_s, gI_sI, gI_sR, gI_sL, gI_sD, gR_sI, gR_sR, gR_sL, gR_sD, gL_sI, gL_sR, gL_sL, gL_sD, gD_sI, gD_sR, gD_sL, gD_sD, isK_sI, isK_sR, isK_sL, isK_sD, inL_sI, inL_sR, inL_sL, inL_sD, nx_sI, nx_sR, nx_sL, nx_sD, kd_sI, kd_sR, kd_sL, kd_sD, ln_sI, ln_sR, ln_sL, ln_sD, ↓reduceIte, c8_n, c8_1, c8_2, c8_3, c8_4, Nat.reduceAdd, k3, q_zhas _ Lsg Ig (show k ≤ n by omega), hk, decide_true, hx9, Ru.nk hk, Ru.nz hk, q_msends _ (Ru.nk hk), h7]
      · by_cases h5 : gI u (p k) 5 ≤ 0
        · by_cases h0k : kk = 0
          · refine fin 46 (Or.inr (Or.inr (Or.inl rfl))) fun Q => ?_
            rw [e_Mdl_row_21]
            simp only [↓e_Mdl_row_0, ↓e_Mdl_row_1, ↓e_Mdl_row_2, ↓e_Mdl_row_5, ↓e_Mdl_row_8, ↓e_Mdl_row_9, ↓e_Mdl_row_12, ↓e_Mdl_row_13, ↓e_Mdl_row_14, ↓e_Mdl_row_17, ↓e_Mdl_row_20, ↓e_Mdl_row_22, ↓e_Mdl_row_27, ↓e_Mdl_row_30, ↓e_Mdl_row_31, ↓e_Mdl_row_36, ↓e_Mdl_row_39, ↓e_Mdl_row_40, ↓e_Mdl_row_41, ↓e_Mdl_row_42, ↓e_Mdl_row_45, ↓e_Mdl_row_48, ↓e_Mdl_row_50, ↓e_Mdl_row_53, ↓e_Mdl_row_54, ↓e_Mdl_row_57, ↓e_Mdl_row_60, ↓e_Mdl_row_62, ↓e_Mdl_row_65, ↓e_Mdl_row_66, ↓e_Mdl_row_69, ↓e_Mdl_row_72, ↓e_Mdl_row_75, ↓e_Mdl_row_77, ↓e_Mdl_row_80, ↓e_Mdl_row_85, ↓e_Mdl_row_86, ↓e_Mdl_row_89, ↓e_Mdl_row_90, ↓e_Mdl_row_93, not_true_eq_false, not_false_eq_true, one0, true_or, or_true, eq_self, bI_z, bI_nz, bI_o, b_ft, bI_1, bI_0, ↓kC_l, ↓kC_r, Option.toList_some, Option.toList_none, List.cons_append, List.nil_append, s1_0, s1_1i, s1_1r, s1_1w, s1_1n, s1_s, s2_0, s2_1i, s2_1r, s2_1w, s2_1n, s2_s, gI_sI, gI_sR, gI_sL, gI_sD, gR_sI, gR_sR, gR_sL, gR_sD, gL_sI, gL_sR, gL_sL, gL_sD, gD_sI, gD_sR, gD_sL, gD_sD, isK_sI, isK_sR, isK_sL, isK_sD, inL_sI, inL_sR, inL_sL, inL_sD, nx_sI, nx_sR, nx_sL, nx_sD, kd_sI, kd_sR, kd_sL, kd_sD, ln_sI, ln_sR, ln_sL, ln_sD, ↓reduceIte, c8_n, c8_1, c8_2, c8_3, c8_4, Nat.reduceAdd, k3, q_zhas _ Lsg Ig (show k ≤ n by omega), hk, decide_true, hx9, Ru.nk hk, Ru.nz hk, q_msends _ (Ru.nk hk), h7, decide_false, h5, N1.2.2.1.1, L1.kd, q_zempty _ L1, h0k]
          · refine fin 113 (Or.inr (Or.inr (Or.inr rfl))) fun Q => ?_
            rw [e_Mdl_row_21]
            simp only [↓e_Mdl_row_0, ↓e_Mdl_row_1, ↓e_Mdl_row_2, ↓e_Mdl_row_5, ↓e_Mdl_row_8, ↓e_Mdl_row_9, ↓e_Mdl_row_12, ↓e_Mdl_row_13, ↓e_Mdl_row_14, ↓e_Mdl_row_17, ↓e_Mdl_row_20, ↓e_Mdl_row_22, ↓e_Mdl_row_27, ↓e_Mdl_row_30, ↓e_Mdl_row_31, ↓e_Mdl_row_36, ↓e_Mdl_row_39, ↓e_Mdl_row_40, ↓e_Mdl_row_41, ↓e_Mdl_row_42, ↓e_Mdl_row_45, ↓e_Mdl_row_48, ↓e_Mdl_row_50, ↓e_Mdl_row_53, ↓e_Mdl_row_54, ↓e_Mdl_row_57, ↓e_Mdl_row_60, ↓e_Mdl_row_62, ↓e_Mdl_row_65, ↓e_Mdl_row_66, ↓e_Mdl_row_69, ↓e_Mdl_row_72, ↓e_Mdl_row_75, ↓e_Mdl_row_77, ↓e_Mdl_row_80, ↓e_Mdl_row_85, ↓e_Mdl_row_86, ↓e_Mdl_row_89, ↓e_Mdl_row_90, ↓e_Mdl_row_93, not_true_eq_false, not_false_eq_true, one0, true_or, or_true, eq_self, bI_z, bI_nz, bI_o, b_ft, bI_1, bI_0, ↓kC_l, ↓kC_r, Option.toList_some, Option.toList_none, List.cons_append, List.nil_append, s1_0, s1_1i, s1_1r, s1_1w, s1_1n, s1_s, s2_0, s2_1i, s2_1r, s2_1w, s2_1n, s2_s, gI_sI, gI_sR, gI_sL, gI_sD, gR_sI, gR_sR, gR_sL, gR_sD, gL_sI, gL_sR, gL_sL, gL_sD, gD_sI, gD_sR, gD_sL, gD_sD, isK_sI, isK_sR, isK_sL, isK_sD, inL_sI, inL_sR, inL_sL, inL_sD, nx_sI, nx_sR, nx_sL, nx_sD, kd_sI, kd_sR, kd_sL, kd_sD, ln_sI, ln_sR, ln_sL, ln_sD, ↓reduceIte, c8_n, c8_1, c8_2, c8_3, c8_4, Nat.reduceAdd, k3, q_zhas _ Lsg Ig (show k ≤ n by omega), hk, decide_true, hx9, Ru.nk hk, Ru.nz hk, q_msends _ (Ru.nk hk), h7, decide_false, h5, N1.2.2.1.1, L1.kd, q_zempty _ L1, h0k]
        · refine fin 119 (Or.inr (Or.inl rfl)) fun Q => ?_
          rw [e_Mdl_row_21]
          simp only [↓e_Mdl_row_0, ↓e_Mdl_row_1, ↓e_Mdl_row_2, ↓e_Mdl_row_5, ↓e_Mdl_row_8, ↓e_Mdl_row_9, ↓e_Mdl_row_12, ↓e_Mdl_row_13, ↓e_Mdl_row_14, ↓e_Mdl_row_17, ↓e_Mdl_row_20, ↓e_Mdl_row_22, ↓e_Mdl_row_27, ↓e_Mdl_row_30, ↓e_Mdl_row_31, ↓e_Mdl_row_36, ↓e_Mdl_row_39, ↓e_Mdl_row_40, ↓e_Mdl_row_41, ↓e_Mdl_row_42, ↓e_Mdl_row_45, ↓e_Mdl_row_48, ↓e_Mdl_row_50, ↓e_Mdl_row_53, ↓e_Mdl_row_54, ↓e_Mdl_row_57, ↓e_Mdl_row_60, ↓e_Mdl_row_62, ↓e_Mdl_row_65, ↓e_Mdl_row_66, ↓e_Mdl_row_69, ↓e_Mdl_row_72, ↓e_Mdl_row_75, ↓e_Mdl_row_77, ↓e_Mdl_row_80, ↓e_Mdl_row_85, ↓e_Mdl_row_86, ↓e_Mdl_row_89, ↓e_Mdl_row_90, ↓e_Mdl_row_93, not_true_eq_false, not_false_eq_true, one0, true_or, or_true, eq_self, bI_z, bI_nz, bI_o, b_ft, bI_1, bI_0, ↓kC_l, ↓kC_r, Option.toList_some, Option.toList_none, List.cons_append, List.nil_append, s1_0, s1_1i, s1_1r, s1_1w, s1_1n, s1_s, s2_0, s2_1i, s2_1r, s2_1w, s2_1n, s2_s, gI_sI, gI_sR, gI_sL, gI_sD, gR_sI, gR_sR, gR_sL, gR_sD, gL_sI, gL_sR, gL_sL, gL_sD, gD_sI, gD_sR, gD_sL, gD_sD, isK_sI, isK_sR, isK_sL, isK_sD, inL_sI, inL_sR, inL_sL, inL_sD, nx_sI, nx_sR, nx_sL, nx_sD, kd_sI, kd_sR, kd_sL, kd_sD, ln_sI, ln_sR, ln_sL, ln_sD, ↓reduceIte, c8_n, c8_1, c8_2, c8_3, c8_4, Nat.reduceAdd, k3, q_zhas _ Lsg Ig (show k ≤ n by omega), hk, decide_true, hx9, Ru.nk hk, Ru.nz hk, q_msends _ (Ru.nk hk), h7, decide_false, h5]) n 0 (g2, none) (by omega) ⟨S2, I2, l2, n2, s2⟩
  dsimp only at e1 Sg Ig Lg ng sg
  obtain ⟨r, u, b1, b2, b3, b4⟩ := q_sbString Sg (show n < 10 by omega) (by omega) (by omega)
  have Lu : Lo9 q h0 u := Lg.trans ⟨fun a k ha => b2.1 a k (by omega), fun a ha => b2.2.1 a (by omega), b2.2.2⟩
  have k3 := Ig.1
  have Lsg := Lst0 Lg
  refine ⟨r, u, fun Q => ?_, ⟨⟨0, h0, Or.inl hh0.symm, jk Lu⟩, by omega, by omega⟩⟩
  have pre : WP Gm j_Mdl_row 0 [some (.inr (.inl (some 121))), none, none, none] [] h Q = WP Gm j_Mdl_row 21 [some (.inr (.inl (some 121))), some (.inr (.inl (some q))), some (.inr (.inl (some (q + 2)))), none] [] g2 Q := by
    simp only [↓e_Mdl_row_0, ↓e_Mdl_row_1, ↓e_Mdl_row_2, ↓e_Mdl_row_5, ↓e_Mdl_row_8, ↓e_Mdl_row_9, ↓e_Mdl_row_12, ↓e_Mdl_row_13, ↓e_Mdl_row_14, ↓e_Mdl_row_17, ↓e_Mdl_row_20, ↓e_Mdl_row_22, ↓e_Mdl_row_27, ↓e_Mdl_row_30, ↓e_Mdl_row_31, ↓e_Mdl_row_36, ↓e_Mdl_row_39, ↓e_Mdl_row_40, ↓e_Mdl_row_41, ↓e_Mdl_row_42, ↓e_Mdl_row_45, ↓e_Mdl_row_48, ↓e_Mdl_row_50, ↓e_Mdl_row_53, ↓e_Mdl_row_54, ↓e_Mdl_row_57, ↓e_Mdl_row_60, ↓e_Mdl_row_62, ↓e_Mdl_row_65, ↓e_Mdl_row_66, ↓e_Mdl_row_69, ↓e_Mdl_row_72, ↓e_Mdl_row_75, ↓e_Mdl_row_77, ↓e_Mdl_row_80, ↓e_Mdl_row_82, ↓e_Mdl_row_85, ↓e_Mdl_row_86, ↓e_Mdl_row_89, ↓e_Mdl_row_90, ↓e_Mdl_row_93, not_true_eq_false, not_false_eq_true, one0, true_or, or_true, eq_self, bI_z, bI_nz, bI_o, b_ft, bI_1, bI_0, ↓kC_l, ↓kC_r, Option.toList_some, Option.toList_none, List.cons_append, List.nil_append, s1_0, s1_1i, s1_1r, s1_1w, s1_1n, s1_s, s2_0, s2_1i, s2_1r, s2_1w, s2_1n, s2_s, gI_sI, gI_sR, gI_sL, gI_sD, gR_sI, gR_sR, gR_sL, gR_sD, gL_sI, gL_sR, gL_sL, gL_sD, gD_sI, gD_sR, gD_sL, gD_sD, isK_sI, isK_sR, isK_sL, isK_sD, inL_sI, inL_sR, inL_sL, inL_sD, nx_sI, nx_sR, nx_sL, nx_sD, kd_sI, kd_sR, kd_sL, kd_sD, ln_sI, ln_sR, ln_sL, ln_sD, ↓reduceIte, c8_n, c8_1, c8_2, c8_3, c8_4, Nat.reduceAdd, R.k, hh0, hr, hq, hg0, k0, a1, R1.k, R1.r9, R1.k122, it1]
  rw [pre, e1 Q, e_Mdl_row_21]
  simp only [↓e_Mdl_row_0, ↓e_Mdl_row_1, ↓e_Mdl_row_2, ↓e_Mdl_row_5, ↓e_Mdl_row_8, ↓e_Mdl_row_9, ↓e_Mdl_row_12, ↓e_Mdl_row_13, ↓e_Mdl_row_14, ↓e_Mdl_row_17, ↓e_Mdl_row_20, ↓e_Mdl_row_22, ↓e_Mdl_row_27, ↓e_Mdl_row_30, ↓e_Mdl_row_31, ↓e_Mdl_row_36, ↓e_Mdl_row_39, ↓e_Mdl_row_40, ↓e_Mdl_row_41, ↓e_Mdl_row_42, ↓e_Mdl_row_45, ↓e_Mdl_row_48, ↓e_Mdl_row_50, ↓e_Mdl_row_53, ↓e_Mdl_row_54, ↓e_Mdl_row_57, ↓e_Mdl_row_60, ↓e_Mdl_row_62, ↓e_Mdl_row_65, ↓e_Mdl_row_66, ↓e_Mdl_row_69, ↓e_Mdl_row_72, ↓e_Mdl_row_75, ↓e_Mdl_row_77, ↓e_Mdl_row_80, ↓e_Mdl_row_82, ↓e_Mdl_row_85, ↓e_Mdl_row_86, ↓e_Mdl_row_89, ↓e_Mdl_row_90, ↓e_Mdl_row_93, not_true_eq_false, not_false_eq_true, one0, true_or, or_true, eq_self, bI_z, bI_nz, bI_o, b_ft, bI_1, bI_0, ↓kC_l, ↓kC_r, Option.toList_some, Option.toList_none, List.cons_append, List.nil_append, s1_0, s1_1i, s1_1r, s1_1w, s1_1n, s1_s, s2_0, s2_1i, s2_1r, s2_1w, s2_1n, s2_s, gI_sI, gI_sR, gI_sL, gI_sD, gR_sI, gR_sR, gR_sL, gR_sD, gL_sI, gL_sR, gL_sL, gL_sD, gD_sI, gD_sR, gD_sL, gD_sD, isK_sI, isK_sR, isK_sL, isK_sD, inL_sI, inL_sR, inL_sL, inL_sD, nx_sI, nx_sR, nx_sL, nx_sD, kd_sI, kd_sR, kd_sL, kd_sD, ln_sI, ln_sR, ln_sL, ln_sD, ↓reduceIte, c8_n, c8_1, c8_2, c8_3, c8_4, Nat.reduceAdd, k3, q_zhas _ Lsg Ig (Nat.le_refl n), Nat.lt_irrefl, decide_false, Sg.1, b1]
theorem qa_mbid (R : RM τ n p (8 * B) c B K h) (V : BB τ b9 x9 p9 m h) (Va9 : RA τ n p c B h α) (hn1 : nx h + 1000 ≤ 580300) (hs1 : sc h + 7000 ≤ 5700000) (x y z : Int32) :
    ∃ v h', (∀ Q, WP Gm j_Mdl_bid 0 [some (.inr (.inl (some 121))), some (.inl x), some (.inl y), some (.inl z)] [] h Q = Q (.inl (some (.inl v))) h') ∧
      ((bidOK x y z = false ∧ gI h' 121 0 = 1 ∧ MoA τ n c B K b9 x9 p9 m α h h') ∨ (bidOK x y z = true ∧ m = 10 ∧ gI h' 121 0 = 2 ∧ MoA τ n c B K b9 x9 p9 m α h h') ∨
        (bidOK x y z = true ∧ m < 10 ∧ gI h' 121 0 = 0 ∧ v = ii m ∧ ∀ b' x' p' : Nat → Nat, (∀ k, k < m → b' k = b9 k ∧ x' k = x9 k ∧ p' k = p9 k) → x = ii (b' m) → y = ii (x' m) → z = ii (p' m) → okB b' x' p' m → MoA τ n c B K b' x' p' (m + 1) α h h')) := by
  have F := R.F
  have R0 : RM τ n p (8 * B) c B K (sI h 121 0 0) := R.th
  have ref : ∀ w, MoA τ n c B K b9 x9 p9 m α h (sI (sI h 121 0 0) 121 0 w) := fun w => MoA.jt R Va9 V (Jt.t2 τ h w)
  have th : ∀ w : Int32, gI (sI (sI h 121 0 0) 121 0 w) 121 0 = w := fun w => by rw [gI_sI, if_pos ⟨rfl, rfl⟩]
  unfold bidOK
  cases e1 : (decide (0 ≤ x) && decide (x ≤ 4)) with
  | false =>
    refine ⟨0, sI (sI h 121 0 0) 121 0 1, fun Q => ?_, Or.inl ⟨rfl, th 1, ref 1⟩⟩
    simp only [↓e_Mdl_bid_0, ↓e_Mdl_bid_1, ↓e_Mdl_bid_2, ↓e_Mdl_bid_3, ↓e_Mdl_bid_4, ↓e_Mdl_bid_7, ↓e_Mdl_bid_10, ↓e_Mdl_bid_11, ↓e_Mdl_bid_12, ↓e_Mdl_bid_14, ↓e_Mdl_bid_17, ↓e_Mdl_bid_20, ↓e_Mdl_bid_21, ↓e_Mdl_bid_22, ↓e_Mdl_bid_25, ↓e_Mdl_bid_28, ↓e_Mdl_bid_31, ↓e_Mdl_bid_32, ↓e_Mdl_bid_35, ↓e_Mdl_bid_36, ↓e_Mdl_bid_37, ↓e_Mdl_bid_40, ↓e_Mdl_bid_43, ↓e_Mdl_bid_44, ↓e_Mdl_bid_45, ↓e_Mdl_bid_48, ↓e_Mdl_bid_51, ↓e_Mdl_bid_53, ↓e_Mdl_bid_56, ↓e_Mdl_bid_57, ↓e_Mdl_bid_60, ↓e_Mdl_bid_61, ↓e_Mdl_bid_62, ↓e_Mdl_bid_65, ↓e_Mdl_bid_68, ↓e_Mdl_bid_69, ↓e_Mdl_bid_70, ↓e_Mdl_bid_71, ↓e_Mdl_bid_74, ↓e_Mdl_bid_75, ↓e_Mdl_bid_77, ↓e_Mdl_bid_78, ↓e_Mdl_bid_79, ↓e_Mdl_bid_80, ↓e_Mdl_bid_81, ↓e_Mdl_bid_82, ↓e_Mdl_bid_83, ↓e_Mdl_bid_84, ↓e_Mdl_bid_85, ↓e_Mdl_bid_86, ↓e_Mdl_bid_87, ↓e_Mdl_bid_88, ↓e_Mdl_bid_89, ↓e_Mdl_bid_92, ↓e_Mdl_bid_93, ↓e_Mdl_bid_94, ↓e_Mdl_bid_97, ↓e_Mdl_bid_100, ↓e_Mdl_bid_101, ↓e_Mdl_bid_102, not_true_eq_false, not_false_eq_true, one0, true_or, or_true, eq_self, bI_z, bI_nz, bI_o, b_ft, bI_1, bI_0, ↓kC_l, ↓kC_r, Option.toList_some, Option.toList_none, List.cons_append, List.nil_append, s1_0, s1_1i, s1_1r, s1_1w, s1_1n, s1_s, s2_0, s2_1i, s2_1r, s2_1w, s2_1n, s2_s, gI_sI, gI_sR, gI_sL, gI_sD, gR_sI, gR_sR, gR_sL, gR_sD, gL_sI, gL_sR, gL_sL, gL_sD, gD_sI, gD_sR, gD_sL, gD_sD, isK_sI, isK_sR, isK_sL, isK_sD, inL_sI, inL_sR, inL_sL, inL_sD, nx_sI, nx_sR, nx_sL, nx_sD, kd_sI, kd_sR, kd_sL, kd_sD, ln_sI, ln_sR, ln_sL, ln_sD, ↓reduceIte, c8_n, c8_1, c8_2, c8_3, c8_4, Nat.reduceAdd, R.k, q_misIn, e1, q_stT _ R]
  | true =>
    cases e2 : (decide (1 ≤ y) && decide (y ≤ 63)) with
    | false =>
      refine ⟨0, sI (sI h 121 0 0) 121 0 1, fun Q => ?_, Or.inl ⟨rfl, th 1, ref 1⟩⟩
      simp only [↓e_Mdl_bid_0, ↓e_Mdl_bid_1, ↓e_Mdl_bid_2, ↓e_Mdl_bid_3, ↓e_Mdl_bid_4, ↓e_Mdl_bid_7, ↓e_Mdl_bid_10, ↓e_Mdl_bid_11, ↓e_Mdl_bid_12, ↓e_Mdl_bid_14, ↓e_Mdl_bid_17, ↓e_Mdl_bid_20, ↓e_Mdl_bid_21, ↓e_Mdl_bid_22, ↓e_Mdl_bid_25, ↓e_Mdl_bid_28, ↓e_Mdl_bid_31, ↓e_Mdl_bid_32, ↓e_Mdl_bid_35, ↓e_Mdl_bid_36, ↓e_Mdl_bid_37, ↓e_Mdl_bid_40, ↓e_Mdl_bid_43, ↓e_Mdl_bid_44, ↓e_Mdl_bid_45, ↓e_Mdl_bid_48, ↓e_Mdl_bid_51, ↓e_Mdl_bid_53, ↓e_Mdl_bid_56, ↓e_Mdl_bid_57, ↓e_Mdl_bid_60, ↓e_Mdl_bid_61, ↓e_Mdl_bid_62, ↓e_Mdl_bid_65, ↓e_Mdl_bid_68, ↓e_Mdl_bid_69, ↓e_Mdl_bid_70, ↓e_Mdl_bid_71, ↓e_Mdl_bid_74, ↓e_Mdl_bid_75, ↓e_Mdl_bid_77, ↓e_Mdl_bid_78, ↓e_Mdl_bid_79, ↓e_Mdl_bid_80, ↓e_Mdl_bid_81, ↓e_Mdl_bid_82, ↓e_Mdl_bid_83, ↓e_Mdl_bid_84, ↓e_Mdl_bid_85, ↓e_Mdl_bid_86, ↓e_Mdl_bid_87, ↓e_Mdl_bid_88, ↓e_Mdl_bid_89, ↓e_Mdl_bid_92, ↓e_Mdl_bid_93, ↓e_Mdl_bid_94, ↓e_Mdl_bid_97, ↓e_Mdl_bid_100, ↓e_Mdl_bid_101, ↓e_Mdl_bid_102, not_true_eq_false, not_false_eq_true, one0, true_or, or_true, eq_self, bI_z, bI_nz, bI_o, b_ft, bI_1, bI_0, ↓kC_l, ↓kC_r, Option.toList_some, Option.toList_none, List.cons_append, List.nil_append, s1_0, s1_1i, s1_1r, s1_1w, s1_1n, s1_s, s2_0, s2_1i, s2_1r, s2_1w, s2_1n, s2_s, gI_sI, gI_sR, gI_sL, gI_sD, gR_sI, gR_sR, gR_sL, gR_sD, gL_sI, gL_sR, gL_sL, gL_sD, gD_sI, gD_sR, gD_sL, gD_sD, isK_sI, isK_sR, isK_sL, isK_sD, inL_sI, inL_sR, inL_sL, inL_sD, nx_sI, nx_sR, nx_sL, nx_sD, kd_sI, kd_sR, kd_sL, kd_sD, ln_sI, ln_sR, ln_sL, ln_sD, ↓reduceIte, c8_n, c8_1, c8_2, c8_3, c8_4, Nat.reduceAdd, R.k, q_misIn, e1, e2, q_stT _ R]
    | true =>
      cases e3 : (decide (1 ≤ z) && decide (z ≤ 999)) with
      | false =>
        refine ⟨0, sI (sI h 121 0 0) 121 0 1, fun Q => ?_, Or.inl ⟨rfl, th 1, ref 1⟩⟩
        simp only [↓e_Mdl_bid_0, ↓e_Mdl_bid_1, ↓e_Mdl_bid_2, ↓e_Mdl_bid_3, ↓e_Mdl_bid_4, ↓e_Mdl_bid_7, ↓e_Mdl_bid_10, ↓e_Mdl_bid_11, ↓e_Mdl_bid_12, ↓e_Mdl_bid_14, ↓e_Mdl_bid_17, ↓e_Mdl_bid_20, ↓e_Mdl_bid_21, ↓e_Mdl_bid_22, ↓e_Mdl_bid_25, ↓e_Mdl_bid_28, ↓e_Mdl_bid_31, ↓e_Mdl_bid_32, ↓e_Mdl_bid_35, ↓e_Mdl_bid_36, ↓e_Mdl_bid_37, ↓e_Mdl_bid_40, ↓e_Mdl_bid_43, ↓e_Mdl_bid_44, ↓e_Mdl_bid_45, ↓e_Mdl_bid_48, ↓e_Mdl_bid_51, ↓e_Mdl_bid_53, ↓e_Mdl_bid_56, ↓e_Mdl_bid_57, ↓e_Mdl_bid_60, ↓e_Mdl_bid_61, ↓e_Mdl_bid_62, ↓e_Mdl_bid_65, ↓e_Mdl_bid_68, ↓e_Mdl_bid_69, ↓e_Mdl_bid_70, ↓e_Mdl_bid_71, ↓e_Mdl_bid_74, ↓e_Mdl_bid_75, ↓e_Mdl_bid_77, ↓e_Mdl_bid_78, ↓e_Mdl_bid_79, ↓e_Mdl_bid_80, ↓e_Mdl_bid_81, ↓e_Mdl_bid_82, ↓e_Mdl_bid_83, ↓e_Mdl_bid_84, ↓e_Mdl_bid_85, ↓e_Mdl_bid_86, ↓e_Mdl_bid_87, ↓e_Mdl_bid_88, ↓e_Mdl_bid_89, ↓e_Mdl_bid_92, ↓e_Mdl_bid_93, ↓e_Mdl_bid_94, ↓e_Mdl_bid_97, ↓e_Mdl_bid_100, ↓e_Mdl_bid_101, ↓e_Mdl_bid_102, not_true_eq_false, not_false_eq_true, one0, true_or, or_true, eq_self, bI_z, bI_nz, bI_o, b_ft, bI_1, bI_0, ↓kC_l, ↓kC_r, Option.toList_some, Option.toList_none, List.cons_append, List.nil_append, s1_0, s1_1i, s1_1r, s1_1w, s1_1n, s1_s, s2_0, s2_1i, s2_1r, s2_1w, s2_1n, s2_s, gI_sI, gI_sR, gI_sL, gI_sD, gR_sI, gR_sR, gR_sL, gR_sD, gL_sI, gL_sR, gL_sL, gL_sD, gD_sI, gD_sR, gD_sL, gD_sD, isK_sI, isK_sR, isK_sL, isK_sD, inL_sI, inL_sR, inL_sL, inL_sD, nx_sI, nx_sR, nx_sL, nx_sD, kd_sI, kd_sR, kd_sL, kd_sD, ln_sI, ln_sR, ln_sL, ln_sD, ↓reduceIte, c8_n, c8_1, c8_2, c8_3, c8_4, Nat.reduceAdd, R.k, q_misIn, e1, e2, e3, q_stT _ R]
      | true =>
        have V0 : BB τ b9 x9 p9 m (sI h 121 0 0) := V.sw F (R.sth 0)
        have Va : RA τ n p c B (sI h 121 0 0) (asV α 50 1 0) := Va9.th R 0
        generalize hh0 : sI h 121 0 0 = h0 at *
        have z0h : gI h0 121 0 = 0 := by rw [← hh0]; exact th0 h
        have F0 := R0.F
        have n0 : nx h0 = nx h := by rw [← hh0]; rfl
        have s0 : sc h0 = sc h := by rw [← hh0]; rfl
        have Sh : Sw τ h h0 := by rw [← hh0]; exact R.sth 0
        obtain ⟨BV, W⟩ := V0.bv R0
        obtain ⟨m1, w1, w2, w3, w4, w5, w6⟩ := id W
        have ek : (ii m = 10) = (m = 10) := ii_inj (j := 10) (by omega) (by omega)
        by_cases h4 : m = 10
        · have ek4 : (ii m = 10) = True := by rw [ek]; exact eq_true h4
          refine ⟨0, sI h0 121 0 2, fun Q => ?_, Or.inr (Or.inl ⟨rfl, h4, th 2, ref 2⟩)⟩
          simp only [↓e_Mdl_bid_0, ↓e_Mdl_bid_1, ↓e_Mdl_bid_2, ↓e_Mdl_bid_3, ↓e_Mdl_bid_4, ↓e_Mdl_bid_7, ↓e_Mdl_bid_10, ↓e_Mdl_bid_11, ↓e_Mdl_bid_12, ↓e_Mdl_bid_14, ↓e_Mdl_bid_17, ↓e_Mdl_bid_20, ↓e_Mdl_bid_21, ↓e_Mdl_bid_22, ↓e_Mdl_bid_25, ↓e_Mdl_bid_28, ↓e_Mdl_bid_31, ↓e_Mdl_bid_32, ↓e_Mdl_bid_35, ↓e_Mdl_bid_36, ↓e_Mdl_bid_37, ↓e_Mdl_bid_40, ↓e_Mdl_bid_43, ↓e_Mdl_bid_44, ↓e_Mdl_bid_45, ↓e_Mdl_bid_48, ↓e_Mdl_bid_51, ↓e_Mdl_bid_53, ↓e_Mdl_bid_56, ↓e_Mdl_bid_57, ↓e_Mdl_bid_60, ↓e_Mdl_bid_61, ↓e_Mdl_bid_62, ↓e_Mdl_bid_65, ↓e_Mdl_bid_68, ↓e_Mdl_bid_69, ↓e_Mdl_bid_70, ↓e_Mdl_bid_71, ↓e_Mdl_bid_74, ↓e_Mdl_bid_75, ↓e_Mdl_bid_77, ↓e_Mdl_bid_78, ↓e_Mdl_bid_79, ↓e_Mdl_bid_80, ↓e_Mdl_bid_81, ↓e_Mdl_bid_82, ↓e_Mdl_bid_83, ↓e_Mdl_bid_84, ↓e_Mdl_bid_85, ↓e_Mdl_bid_86, ↓e_Mdl_bid_87, ↓e_Mdl_bid_88, ↓e_Mdl_bid_89, ↓e_Mdl_bid_92, ↓e_Mdl_bid_93, ↓e_Mdl_bid_94, ↓e_Mdl_bid_97, ↓e_Mdl_bid_100, ↓e_Mdl_bid_101, ↓e_Mdl_bid_102, not_true_eq_false, not_false_eq_true, one0, true_or, or_true, eq_self, bI_z, bI_nz, bI_o, b_ft, bI_1, bI_0, ↓kC_l, ↓kC_r, Option.toList_some, Option.toList_none, List.cons_append, List.nil_append, s1_0, s1_1i, s1_1r, s1_1w, s1_1n, s1_s, s2_0, s2_1i, s2_1r, s2_1w, s2_1n, s2_s, gI_sI, gI_sR, gI_sL, gI_sD, gR_sI, gR_sR, gR_sL, gR_sD, gL_sI, gL_sR, gL_sL, gL_sD, gD_sI, gD_sR, gD_sL, gD_sD, isK_sI, isK_sR, isK_sL, isK_sD, inL_sI, inL_sR, inL_sL, inL_sD, nx_sI, nx_sR, nx_sL, nx_sD, kd_sI, kd_sR, kd_sL, kd_sD, ln_sI, ln_sR, ln_sL, ln_sD, ↓reduceIte, c8_n, c8_1, c8_2, c8_3, c8_4, Nat.reduceAdd, R.k, q_misIn, e1, e2, e3, q_stF _ R, hh0, w1, w2, w3, w5, ek4, q_rfT _ R0 (show (0 : Int32) < 2 by decide) z0h]
        · have ek4 : (ii m = 10) = False := by rw [ek]; exact eq_false h4
          obtain ⟨b, b1, hb⟩ := i32_cases (b := 4) (by omega) e1
          obtain ⟨y1, y2, y3, hy⟩ := i32_cases1 (a := 1) (b := 63) (by omega) e2 (by omega)
          obtain ⟨q1, q2, q3, hq⟩ := i32_cases1 (a := 1) (b := 999) (by omega) e3 (by omega)
          obtain ⟨z0, z1, z2, z3, z4, z5⟩ := i32n
          obtain ⟨l2, l3, l5⟩ := i32p
          generalize hg0 : hN h0 100 3 3 = g0
          have N0 : Nw τ h0 3 g0 := by rw [← hg0]; exact Nw.new F0 3
          have k0 := N0.2.2.1
          obtain ⟨i0, i1, i2⟩ := rd3 N0.2.2.2.1
          have nz : (nx h0 = 0) = False := eq_false (by have := F0.1; omega)
          generalize hg : sI (sI (sI g0 (nx h0) 0 x) (nx h0) 1 y) (nx h0) 2 z = g
          have N : Nw τ h0 3 g := by rw [← hg]; exact ((N0.sI F0).sI F0).sI F0
          have gv : gI g (nx h0) 0 = x ∧ gI g (nx h0) 1 = y ∧ gI g (nx h0) 2 = z := by
            rw [← hg]
            simp only [gI_sI, Nat.reduceEqDiff, and_false, and_self, ↓reduceIte]
          have hr : okR cM sM h0 1 3 = true := ok_big (by omega) (by omega)
          have mk : ∀ b' x' p' : Nat → Nat, (∀ k, k < m → b' k = b9 k ∧ x' k = x9 k ∧ p' k = p9 k) → x = ii (b' m) → y = ii (x' m) → z = ii (p' m) → okB b' x' p' m → ∃ τ' u, (∀ Q, WP Gm j_ArrayList_add_LjavalangObjectZ 0 [some (.inr (.inl (some 124))), some (.inr (.inl (some (nx h0))))] [] g Q = Q (.inl (some (.inl 1))) u) ∧ RM τ' n p (8 * B) c B K u ∧ BB τ' b' x' p' (m + 1) u ∧ Ext τ h0 τ' u ∧ Ag τ (fun s => s = 1 ∨ s = 5 ∨ s = 8) h0 u ∧ nx u ≤ nx h0 + 2 ∧ sc u ≤ sc h0 + 60 := fun b' x' p' he ex ey ez ho => by
            have V' : BB τ b' x' p' m h0 := by
              obtain ⟨⟨a1, a2⟩, c0, c1, L⟩ := V0
              refine ⟨⟨a1, fun k hk => ?_⟩, c0, c1, L.mono fun j f hj q => ?_⟩
              · obtain ⟨t1, t2, t3⟩ := he k hk
                unfold okB
                rw [t1, t2, t3]
                exact a2 k hk
              · obtain ⟨t1, t2, t3⟩ := he j hj
                rw [t1, t2, t3]
                exact q
            exact R0.bidAddX V' N (by rw [gv.1, gv.2.1, gv.2.2]; exact ⟨ex, ey, ez⟩) (by omega) ho (by omega) (by omega)
          have fin : ∀ b' x' p' : Nat → Nat, (∀ k, k < m → b' k = b9 k ∧ x' k = x9 k ∧ p' k = p9 k) → x = ii (b' m) → y = ii (x' m) → z = ii (p' m) → okB b' x' p' m → ∃ u, (∀ Q, WP Gm j_Mdl_bid 0 [some (.inr (.inl (some 121))), some (.inl x), some (.inl y), some (.inl z)] [] h Q = Q (.inl (some (.inl (ii m)))) u) ∧ gI u 121 0 = 0 ∧ MoA τ n c B K b' x' p' (m + 1) α h u := fun b' x' p' he ex ey ez ho => by
            obtain ⟨τ', u, u1, R2, V2, X2, G2, n2, s2⟩ := mk b' x' p' he ex ey ez ho
            obtain ⟨-, W2⟩ := V2.bv R2
            obtain ⟨q1, q2, q3, q4, q5, q6, q7⟩ := id W2
            have em : ii (m + 1) - 1 = ii m := by
              have := ii_pred (k := m + 1) (by omega)
              rw [this]
              rfl
            refine ⟨u, fun Q => ?_, by rw [(G2 121 (by rw [R.t1]; omega) 0).1]; exact z0h, τ', p, c, B, R2, Sh.1.trans X2, (Sh.s0.mono fun s w => by unfold S0 at w; unfold SM9; omega).trans F Sh.1 (by unfold SM9; omega) (G2.mono fun s w => by unfold SM9; omega), ⟨Nat.le_refl _, by omega, by omega⟩, V2, 0, Va.fr R0 X2 G2 (by omega)⟩
            simp only [↓e_Mdl_bid_0, ↓e_Mdl_bid_1, ↓e_Mdl_bid_2, ↓e_Mdl_bid_3, ↓e_Mdl_bid_4, ↓e_Mdl_bid_7, ↓e_Mdl_bid_10, ↓e_Mdl_bid_11, ↓e_Mdl_bid_12, ↓e_Mdl_bid_14, ↓e_Mdl_bid_17, ↓e_Mdl_bid_20, ↓e_Mdl_bid_21, ↓e_Mdl_bid_22, ↓e_Mdl_bid_25, ↓e_Mdl_bid_28, ↓e_Mdl_bid_31, ↓e_Mdl_bid_32, ↓e_Mdl_bid_35, ↓e_Mdl_bid_36, ↓e_Mdl_bid_37, ↓e_Mdl_bid_40, ↓e_Mdl_bid_43, ↓e_Mdl_bid_44, ↓e_Mdl_bid_45, ↓e_Mdl_bid_48, ↓e_Mdl_bid_51, ↓e_Mdl_bid_53, ↓e_Mdl_bid_56, ↓e_Mdl_bid_57, ↓e_Mdl_bid_60, ↓e_Mdl_bid_61, ↓e_Mdl_bid_62, ↓e_Mdl_bid_65, ↓e_Mdl_bid_68, ↓e_Mdl_bid_69, ↓e_Mdl_bid_70, ↓e_Mdl_bid_71, ↓e_Mdl_bid_74, ↓e_Mdl_bid_75, ↓e_Mdl_bid_77, ↓e_Mdl_bid_78, ↓e_Mdl_bid_79, ↓e_Mdl_bid_80, ↓e_Mdl_bid_81, ↓e_Mdl_bid_82, ↓e_Mdl_bid_83, ↓e_Mdl_bid_84, ↓e_Mdl_bid_85, ↓e_Mdl_bid_86, ↓e_Mdl_bid_87, ↓e_Mdl_bid_88, ↓e_Mdl_bid_89, ↓e_Mdl_bid_92, ↓e_Mdl_bid_93, ↓e_Mdl_bid_94, ↓e_Mdl_bid_97, ↓e_Mdl_bid_100, ↓e_Mdl_bid_101, ↓e_Mdl_bid_102, not_true_eq_false, not_false_eq_true, one0, true_or, or_true, eq_self, bI_z, bI_nz, bI_o, b_ft, bI_1, bI_0, ↓kC_l, ↓kC_r, Option.toList_some, Option.toList_none, List.cons_append, List.nil_append, s1_0, s1_1i, s1_1r, s1_1w, s1_1n, s1_s, s2_0, s2_1i, s2_1r, s2_1w, s2_1n, s2_s, gI_sI, gI_sR, gI_sL, gI_sD, gR_sI, gR_sR, gR_sL, gR_sD, gL_sI, gL_sR, gL_sL, gL_sD, gD_sI, gD_sR, gD_sL, gD_sD, isK_sI, isK_sR, isK_sL, isK_sD, inL_sI, inL_sR, inL_sL, inL_sD, nx_sI, nx_sR, nx_sL, nx_sD, kd_sI, kd_sR, kd_sL, kd_sD, ln_sI, ln_sR, ln_sL, ln_sD, ↓reduceIte, c8_n, c8_1, c8_2, c8_3, c8_4, Nat.reduceAdd, R.k, q_misIn, e1, e2, e3, q_stF _ R, hh0, w1, w2, w3, w5, ek4, q_rfF _ R0 _ z0h, z0, z1, z2, z3, l3, Nat.reduceLeDiff, and_self, hr, hg0, k0, i0, i1, i2, nz, hg, N.2.2.2.2.1.k w3, u1, q2, q3, q4, q6, em]
          obtain ⟨u, u1, u2, -⟩ := fin (fun k => if k = m then b else b9 k) (fun k => if k = m then y1 else x9 k) (fun k => if k = m then q1 else p9 k) (fun k hk => ⟨if_neg (by omega), if_neg (by omega), if_neg (by omega)⟩) (by rw [if_pos rfl]; exact hb) (by rw [if_pos rfl]; exact hy) (by rw [if_pos rfl]; exact hq) (by unfold okB; simp only [eq_self, ↓reduceIte]; omega)
          refine ⟨ii m, u, u1, Or.inr (Or.inr ⟨rfl, by omega, u2, rfl, fun b' x' p' he ex ey ez ho => ?_⟩)⟩
          obtain ⟨u', v1, v2, v3⟩ := fin b' x' p' he ex ey ez ho
          obtain ⟨-, rfl⟩ := det u1 v1
          exact v3
theorem asV_comm (α : As) {i f a k : Nat} {v w : Int32} (h : ¬ (a = i ∧ k = f)) : asV (asV α i f v) a k w = asV (asV α a k w) i f v := by
  refine Prod.ext (funext fun b => funext fun l => ?_) rfl
  show (if b = a ∧ l = k then w else if b = i ∧ l = f then v else α.1 b l) = if b = i ∧ l = f then v else if b = a ∧ l = k then w else α.1 b l
  by_cases e : b = a ∧ l = k
  · rw [if_pos e, if_neg (by omega), if_pos e]
  · rw [if_neg e, if_neg e]
theorem qa_msell (R : RM τ n p (8 * B) c B K h) (V : BB τ b9 x9 p9 m h) (Va9 : RA τ n p c B h α) (hn1 : nx h + 1000 ≤ 580300) (hs1 : sc h + 7000 ≤ 5700000) (b' x' p' : Nat → Nat) :
    ∃ h', (∀ Q, WP Gm j_Mdl_sell 0 [some (.inr (.inl (some 121))), none, none, none] [] h Q = Q (.inl (some (.inl (all9 b9 x9 p9 m)))) h') ∧ MoA τ n c B K b' x' p' 0 (asV α 50 8 (α.1 50 8 + all9 b9 x9 p9 m)) h h' := by
  have F := R.F
  have R0 : RM τ n p (8 * B) c B K (sI h 121 0 0) := R.th
  obtain ⟨g, g1, N, v0, v1, v2⟩ := qx_aucNow R0 (V.sw F (R.sth 0)) (by show nx h + 10 ≤ _; omega) (by show sc h + 10 ≤ _; omega)
  have g1' : ∀ Q, WP Gm j_Mdl_auctionNow 0 [some (.inr (.inl (some 121))), none, none, none] [] (sI h 121 0 0) Q = Q (.inl (some (.inr (.inl (some (nx h)))))) g := g1
  have sw : Sw τ h g := (R.sth 0).trans N.2.2.2.2.sw
  have Rg := R.sw sw
  have kg : isK g (nx h) 100 = true := N.2.2.1
  have n1 : nx g = nx h + 1 := N.1
  have s1 : sc g = sc h + 7 := N.2.1
  have step := fun Q => loop0 (fun k (a : Int32) => WP Gm j_Mdl_sell 14 [some (.inr (.inl (some 121))), some (.inr (.inl (some (nx h)))), some (.inl a), some (.inl (ii k))] [] g Q) (fun k a => a + pay9 b9 x9 p9 m k) 5
    (fun k a hk => by
      have hle : ((5 : Int32) ≤ ii k) = False := lle_f (n := 5) (by omega) hk
      have e2 : (2 : Int32) + ii k = ii (2 + k) := ii_add 2 k
      have ik : inL g (nx h) (ii (2 + k)) = true := N.in (show 2 + k < 7 by omega) (by omega)
      have vk : gI g (nx h) (2 + k) = pay9 b9 x9 p9 m k := v2 k hk
      rw [e_Mdl_sell_14]
      simp only [↓e_Mdl_sell_0, ↓e_Mdl_sell_1, ↓e_Mdl_sell_2, ↓e_Mdl_sell_5, ↓e_Mdl_sell_6, ↓e_Mdl_sell_9, ↓e_Mdl_sell_10, ↓e_Mdl_sell_11, ↓e_Mdl_sell_12, ↓e_Mdl_sell_13, ↓e_Mdl_sell_15, ↓e_Mdl_sell_16, ↓e_Mdl_sell_19, ↓e_Mdl_sell_20, ↓e_Mdl_sell_21, ↓e_Mdl_sell_22, ↓e_Mdl_sell_23, ↓e_Mdl_sell_24, ↓e_Mdl_sell_25, ↓e_Mdl_sell_26, ↓e_Mdl_sell_27, ↓e_Mdl_sell_30, ↓e_Mdl_sell_33, ↓e_Mdl_sell_34, ↓e_Mdl_sell_35, ↓e_Mdl_sell_38, ↓e_Mdl_sell_39, ↓e_Mdl_sell_40, ↓e_Mdl_sell_43, ↓e_Mdl_sell_44, ↓e_Mdl_sell_47, ↓e_Mdl_sell_50, ↓e_Mdl_sell_51, not_true_eq_false, not_false_eq_true, one0, true_or, or_true, eq_self, bI_z, bI_nz, bI_o, b_ft, bI_1, bI_0, ↓kC_l, ↓kC_r, Option.toList_some, Option.toList_none, List.cons_append, List.nil_append, s1_0, s1_1i, s1_1r, s1_1w, s1_1n, s1_s, s2_0, s2_1i, s2_1r, s2_1w, s2_1n, s2_s, gI_sI, gI_sR, gI_sL, gI_sD, gR_sI, gR_sR, gR_sL, gR_sD, gL_sI, gL_sR, gL_sL, gL_sD, gD_sI, gD_sR, gD_sL, gD_sD, isK_sI, isK_sR, isK_sL, isK_sD, inL_sI, inL_sR, inL_sL, inL_sD, nx_sI, nx_sR, nx_sL, nx_sD, kd_sI, kd_sR, kd_sL, kd_sD, ln_sI, ln_sR, ln_sL, ln_sD, ↓reduceIte, c8_n, c8_1, c8_2, c8_3, c8_4, Nat.reduceAdd, hle, e2, kg, ik, ii_nat (show 2 + k < 2147483648 by omega), vk, ii_succ]) 5 0 0 (by omega)
  have hS : upto (fun k a => a + pay9 b9 x9 p9 m k) 5 0 0 = all9 b9 x9 p9 m := rfl
  rw [hS] at step
  have Vg : RA τ n p c B g (asV α 50 1 0) := (Va9.th R 0).jk R0 N.2.2.2.2
  have e7 : gI g 121 7 = α.1 50 8 := by
    have := Vg.g (k := 8) (by omega) (by omega)
    rwa [asV_n _ _ (by omega)] at this
  have Vu : RA τ n p c B (sI g 121 7 (gI g 121 7 + all9 b9 x9 p9 m)) (asV (asV α 50 1 0) 50 8 (α.1 50 8 + all9 b9 x9 p9 m)) := by
    rw [e7]
    exact Vg.setG (k := 8) Rg R.n8 (by omega) (by omega) _
  generalize hu : sI g 121 7 (gI g 121 7 + all9 b9 x9 p9 m) = u at Vu
  have Su : Sw τ h u := by rw [← hu]; exact sw.sI (by rw [R.t1]; unfold OW; omega)
  have Ru := R.sw Su
  have nu : nx u = nx h + 1 := by rw [← hu]; exact n1
  have su : sc u = sc h + 7 := by rw [← hu]; exact s1
  obtain ⟨k, c0, k1, c1, L⟩ := Ru.bl
  obtain ⟨w, w1, X, G, L', nw, sw'⟩ := q_zclear L
  have G' : Ag τ (fun s => s = 1 ∨ s = 5 ∨ s = 8) u w := G.mono fun s q => by rw [R.t4] at q; omega
  have Fw : Fs τ w := Ru.F.same X.2
  have Rw : RM τ n p (8 * B) c B K w := Ru.bids Fw X G' (fun f hf => by rw [Ru.F.j hf]; omega) (fun f hf => by rw [Ru.F.j hf]; omega) (fun f hf q => by rw [Ru.F.j hf] at q; omega) ⟨0, c0, by omega, c1, L'⟩
  refine ⟨w, fun Q => ?_, ⟨τ, p, c, B, Rw, Su.1.trans X, (Su.s0.mono fun s w => by unfold S0 at w; unfold SM9; omega).trans F Su.1 (by unfold SM9; omega) (G'.mono fun s q => by unfold SM9; omega), ⟨Nat.le_refl _, by omega, by omega⟩, ⟨⟨by omega, fun k hk => absurd hk (by omega)⟩, c0, c1, L'.mono fun j f hj _ => absurd hj (by omega)⟩, 0, by rw [asV_comm α (by omega)]; exact Vu.fr Ru X G' (by omega)⟩⟩
  have pre : WP Gm j_Mdl_sell 0 [some (.inr (.inl (some 121))), none, none, none] [] h Q = WP Gm j_Mdl_sell 14 [some (.inr (.inl (some 121))), some (.inr (.inl (some (nx h)))), some (.inl 0), some (.inl (ii 0))] [] g Q := by
    simp only [↓e_Mdl_sell_0, ↓e_Mdl_sell_1, ↓e_Mdl_sell_2, ↓e_Mdl_sell_5, ↓e_Mdl_sell_6, ↓e_Mdl_sell_9, ↓e_Mdl_sell_10, ↓e_Mdl_sell_11, ↓e_Mdl_sell_12, ↓e_Mdl_sell_13, ↓e_Mdl_sell_15, ↓e_Mdl_sell_16, ↓e_Mdl_sell_19, ↓e_Mdl_sell_20, ↓e_Mdl_sell_21, ↓e_Mdl_sell_22, ↓e_Mdl_sell_23, ↓e_Mdl_sell_24, ↓e_Mdl_sell_25, ↓e_Mdl_sell_26, ↓e_Mdl_sell_27, ↓e_Mdl_sell_30, ↓e_Mdl_sell_33, ↓e_Mdl_sell_34, ↓e_Mdl_sell_35, ↓e_Mdl_sell_38, ↓e_Mdl_sell_39, ↓e_Mdl_sell_40, ↓e_Mdl_sell_43, ↓e_Mdl_sell_44, ↓e_Mdl_sell_47, ↓e_Mdl_sell_50, ↓e_Mdl_sell_51, not_true_eq_false, not_false_eq_true, one0, true_or, or_true, eq_self, bI_z, bI_nz, bI_o, b_ft, bI_1, bI_0, ↓kC_l, ↓kC_r, Option.toList_some, Option.toList_none, List.cons_append, List.nil_append, s1_0, s1_1i, s1_1r, s1_1w, s1_1n, s1_s, s2_0, s2_1i, s2_1r, s2_1w, s2_1n, s2_s, gI_sI, gI_sR, gI_sL, gI_sD, gR_sI, gR_sR, gR_sL, gR_sD, gL_sI, gL_sR, gL_sL, gL_sD, gD_sI, gD_sR, gD_sL, gD_sD, isK_sI, isK_sR, isK_sL, isK_sD, inL_sI, inL_sR, inL_sL, inL_sD, nx_sI, nx_sR, nx_sL, nx_sD, kd_sI, kd_sR, kd_sL, kd_sD, ln_sI, ln_sR, ln_sL, ln_sD, ↓reduceIte, c8_n, c8_1, c8_2, c8_3, c8_4, Nat.reduceAdd, R.k, R0.k, g1']
    rfl
  rw [pre, step Q, e_Mdl_sell_14]
  simp only [↓e_Mdl_sell_0, ↓e_Mdl_sell_1, ↓e_Mdl_sell_2, ↓e_Mdl_sell_5, ↓e_Mdl_sell_6, ↓e_Mdl_sell_9, ↓e_Mdl_sell_10, ↓e_Mdl_sell_11, ↓e_Mdl_sell_12, ↓e_Mdl_sell_13, ↓e_Mdl_sell_15, ↓e_Mdl_sell_16, ↓e_Mdl_sell_19, ↓e_Mdl_sell_20, ↓e_Mdl_sell_21, ↓e_Mdl_sell_22, ↓e_Mdl_sell_23, ↓e_Mdl_sell_24, ↓e_Mdl_sell_25, ↓e_Mdl_sell_26, ↓e_Mdl_sell_27, ↓e_Mdl_sell_30, ↓e_Mdl_sell_33, ↓e_Mdl_sell_34, ↓e_Mdl_sell_35, ↓e_Mdl_sell_38, ↓e_Mdl_sell_39, ↓e_Mdl_sell_40, ↓e_Mdl_sell_43, ↓e_Mdl_sell_44, ↓e_Mdl_sell_47, ↓e_Mdl_sell_50, ↓e_Mdl_sell_51, not_true_eq_false, not_false_eq_true, one0, true_or, or_true, eq_self, bI_z, bI_nz, bI_o, b_ft, bI_1, bI_0, ↓kC_l, ↓kC_r, Option.toList_some, Option.toList_none, List.cons_append, List.nil_append, s1_0, s1_1i, s1_1r, s1_1w, s1_1n, s1_s, s2_0, s2_1i, s2_1r, s2_1w, s2_1n, s2_s, gI_sI, gI_sR, gI_sL, gI_sD, gR_sI, gR_sR, gR_sL, gR_sD, gL_sI, gL_sR, gL_sL, gL_sD, gD_sI, gD_sR, gD_sL, gD_sD, isK_sI, isK_sR, isK_sL, isK_sD, inL_sI, inL_sR, inL_sL, inL_sD, nx_sI, nx_sR, nx_sL, nx_sD, kd_sI, kd_sR, kd_sL, kd_sD, ln_sI, ln_sR, ln_sL, ln_sD, ↓reduceIte, c8_n, c8_1, c8_2, c8_3, c8_4, Nat.reduceAdd, (show ((5 : Int32) ≤ ii 5) = True from eq_true (by decide)), Rg.k, hu, Ru.k, Ru.r11, Ru.k124, w1, Nat.reduceEqDiff, and_false, and_self]
theorem q_addX8 {n c : Nat} {b x p : Nat → Nat} {h : Hp} (S : Str n h) (hc10 : c < 10) (M : MX b x p c h) (hn : b c < 5 ∧ 1 ≤ x c ∧ x c < 64 ∧ 1 ≤ p c ∧ p c ≤ 999) :
    ∃ h', (∀ Q, WP Gm j_Market_add 0 [some (.inr (.inl (some 115))), some (.inl (ii (b c))), some (.inl (ii (x c))), some (.inl (ii (p c))), none, none, none, none, none] [] h Q = Q (.inl (some (.inl (ii c)))) h') ∧ Fr wM nW nW h h' ∧ gI h' 115 8 = gI h 115 8 := by
  obtain ⟨m1, m2, hc, m4, m5, m6, m7⟩ := id M
  obtain ⟨hb, hx1, hx2, hp1, hp⟩ := id hn
  have h1024 := p1024 hc10
  have hpw := pw2 c
  have hp0 := pw0 c
  generalize hh0 : sI (sI (sI h 115 5 (ii (c + 1))) 116 c (ii (b c))) 117 c (ii (p c)) = h0
  have S0 : Str n h0 := by rw [← hh0]; exact ((S.sI _ (by omega)).sI _ (by omega)).sI _ (by omega)
  have F0 : Fr wM nW nW h h0 := by rw [← hh0]; exact (((Fr.refl h).sI _ (by unfold wM; omega)).sI _ (by unfold wM; omega)).sI _ (by unfold wM; omega)
  have gother : ∀ a k, a = 120 ∨ a = 118 ∨ a = 119 ∨ (a = 115 ∧ 6 ≤ k) → gI h0 a k = gI h a k := fun a k ha => by rw [← hh0, gI_sI, gI_sI, gI_sI, if_neg (by omega), if_neg (by omega), if_neg (by omega)]
  have g115 : gI h0 115 5 = ii (c + 1) := by rw [← hh0]; rfl
  have g117 : ∀ i, i < c → gI h0 117 i = gI h 117 i := fun i hi => by rw [← hh0, gI_sI, gI_sI, gI_sI, if_neg (by omega), if_neg (by omega), if_neg (by omega)]
  have g117c : gI h0 117 c = ii (p c) := by rw [← hh0, gI_sI, if_pos ⟨rfl, rfl⟩]
  have g116 : ∀ i, i < c → gI h0 116 i = gI h 116 i := fun i hi => by rw [← hh0, gI_sI, gI_sI, gI_sI, if_neg (by omega), if_neg (by omega), if_neg (by omega)]
  have g116c : gI h0 116 c = ii (b c) := by rw [← hh0, gI_sI, gI_sI, if_neg (by omega), if_pos ⟨rfl, rfl⟩]
  have pr : ∀ i, i < c + 1 → (b i < 5 ∧ 1 ≤ x i ∧ x i < 64 ∧ 1 ≤ p i ∧ p i ≤ 999) ∧ gI h0 116 i = ii (b i) ∧ gI h0 117 i = ii (p i) := fun i hi => by
    by_cases e : i = c
    · subst e; exact ⟨hn, g116c, g117c⟩
    · obtain ⟨q1, q2, q3⟩ := m2 i (by omega)
      exact ⟨q1, by rw [g116 i (by omega)]; exact q2, by rw [g117 i (by omega)]; exact q3⟩
  have sle : ∀ s, sP p s (c + 1) ≤ 9990 := fun s => by
    have := sP_le (p := p) (s := s) (m := c + 1) fun i hi => (pr i hi).1.2.2.2.2
    omega
  have ule : ∀ w k, um b x p (c + 1) w k ≤ 9990 := fun w k => um_le (fun i hi => (pr i hi).1.2.2.2.2) (by omega) k
  have hnd : ii (x c) ||| 1 <<< (6 + ii (b c) &&& 31) = ii (nd9 b x c) := by
    have e6 : (6 + ii (b c) : Int32) = ii (6 + b c) := ii_add 6 (b c)
    have hbt : (1 : Int32) <<< (ii (6 + b c) &&& 31) = ii (2 ^ (6 + b c)) := bitN_eq (6 + b c) (by omega)
    rw [e6, hbt, ii_or]
    rfl
  have ndl : nd9 b x c < 2048 := Nat.or_lt_two_pow (n := 11) (by omega) (Nat.pow_lt_pow_right (by omega) (by omega))
  obtain ⟨⟨g, w⟩, e1, F1, z1, z2, z3, z4, z5⟩ := loopR (fun Q k (a : Hp × Option MV) => WP Gm j_Market_add 51 [some (.inr (.inl (some 115))), some (.inl (ii (b c))), some (.inl (ii (x c))), some (.inl (ii (p c))), some (.inl (ii c)), some (.inl (ii (nd9 b x c))), some (.inl (ii (2 ^ c))), some (.inl (ii k)), a.2] [] a.1 Q)
    (fun k a => Fr (wA c) nW nW h0 a.1 ∧ (∀ s, s < 2 ^ c → gI a.1 119 s = gI h 119 s ∧ gI a.1 118 s = gI h 118 s) ∧ (∀ s, 2 ^ c ≤ s → s < 2 ^ c + k → TW9 b x p (c + 1) s a.1) ∧
      gI a.1 115 6 = ii (am b x p (c + 1) (2 ^ c + k)) ∧ gI a.1 115 7 = ii (sP p (am b x p (c + 1) (2 ^ c + k)) (c + 1)) ∧ ∀ w, w < 5 → gI a.1 120 w = ii (um b x p (c + 1) w (2 ^ c + k))) (2 ^ c)
    (fun k a hk hI => by
      obtain ⟨g, w⟩ := a
      dsimp only at hI ⊢
      obtain ⟨I1, I2, I3, I4, I5, I6⟩ := hI
      have Sg : Str n g := S0.fr I1 (by unfold wA; omega)
      have hk1 : k < 1024 := by omega
      have hs1 : k + 2 ^ c < 1024 := by omega
      have hor := or_low hk (show c < 31 by omega)
      have nk : (ii k).toNatClampNeg = k := ii_nat (by omega)
      have ns : (ii (k + 2 ^ c)).toNatClampNeg = k + 2 ^ c := ii_nat (by omega)
      have am1 : am b x p (c + 1) (2 ^ c + (k + 1)) = if va9 b x (k + 2 ^ c) (c + 1) = true ∧ sP p (am b x p (c + 1) (2 ^ c + k)) (c + 1) < sP p (k + 2 ^ c) (c + 1) then k + 2 ^ c else am b x p (c + 1) (2 ^ c + k) := by
        rw [show 2 ^ c + (k + 1) = (2 ^ c + k) + 1 from rfl, am_s, Nat.add_comm (2 ^ c) k]
      have um1 : ∀ w, um b x p (c + 1) w (2 ^ c + (k + 1)) = if va9 b x (k + 2 ^ c) (c + 1) = true ∧ ho b w (k + 2 ^ c) (c + 1) = false ∧ um b x p (c + 1) w (2 ^ c + k) < sP p (k + 2 ^ c) (c + 1) then sP p (k + 2 ^ c) (c + 1) else um b x p (c + 1) w (2 ^ c + k) := fun w => by
        rw [show 2 ^ c + (k + 1) = (2 ^ c + k) + 1 from rfl, um_s, Nat.add_comm (2 ^ c) k]
      have bad : ms b x (k + 2 ^ c) (c + 1) = none → (Fr (wA c) nW nW h0 (sI g 119 (k + 2 ^ c) (-1)) ∧ (∀ s, s < 2 ^ c → gI (sI g 119 (k + 2 ^ c) (-1)) 119 s = gI h 119 s ∧ gI (sI g 119 (k + 2 ^ c) (-1)) 118 s = gI h 118 s) ∧ (∀ s, 2 ^ c ≤ s → s < 2 ^ c + (k + 1) → TW9 b x p (c + 1) s (sI g 119 (k + 2 ^ c) (-1))) ∧
          gI (sI g 119 (k + 2 ^ c) (-1)) 115 6 = ii (am b x p (c + 1) (2 ^ c + (k + 1))) ∧ gI (sI g 119 (k + 2 ^ c) (-1)) 115 7 = ii (sP p (am b x p (c + 1) (2 ^ c + (k + 1))) (c + 1)) ∧ ∀ w, w < 5 → gI (sI g 119 (k + 2 ^ c) (-1)) 120 w = ii (um b x p (c + 1) w (2 ^ c + (k + 1)))) := by
        intro hm
        have hv : ¬ va9 b x (k + 2 ^ c) (c + 1) = true := by unfold va9; rw [hm]; decide
        rw [if_neg (fun q => hv q.1)] at am1
        refine ⟨I1.sI _ (by unfold wA; omega), fun s hs => ?_, fun s hs1 hs2 => ?_, ?_, ?_, fun w hw => ?_⟩
        · rw [gI_sI, gI_sI, if_neg (by omega), if_neg (by omega)]; exact I2 s hs
        · unfold TW9
          rw [gI_sI, gI_sI]
          by_cases e : s = k + 2 ^ c
          · rw [if_pos ⟨rfl, e⟩, e]; exact Or.inl ⟨hm, rfl⟩
          · rw [if_neg (by omega), if_neg (by omega)]; exact I3 s hs1 (by omega)
        · rw [gI_sI, if_neg (by omega), am1]; exact I4
        · rw [gI_sI, if_neg (by omega), am1]; exact I5
        · rw [gI_sI, if_neg (by omega), um1, if_neg (fun q => hv q.1)]; exact I6 w hw
      have mh := ms_high (b := b) (x := x) hk
      rcases m4 k hk with ⟨a1, a2⟩ | ⟨a, a1, a2, a3⟩
      · have c1 : gI g 119 k = -1 := by rw [(I2 k hk).1]; exact a2
        rw [a1] at mh
        refine ⟨(sI g 119 (k + 2 ^ c) (-1), some (.inl (ii (k + 2 ^ c)))), fun Q => ?_, bad mh⟩
        rw [e_Market_add_51]
        simp only [↓e_Market_add_0, ↓e_Market_add_1, ↓e_Market_add_4, ↓e_Market_add_6, ↓e_Market_add_7, ↓e_Market_add_8, ↓e_Market_add_11, ↓e_Market_add_12, ↓e_Market_add_13, ↓e_Market_add_16, ↓e_Market_add_17, ↓e_Market_add_20, ↓e_Market_add_22, ↓e_Market_add_23, ↓e_Market_add_24, ↓e_Market_add_25, ↓e_Market_add_28, ↓e_Market_add_30, ↓e_Market_add_31, ↓e_Market_add_32, ↓e_Market_add_33, ↓e_Market_add_34, ↓e_Market_add_36, ↓e_Market_add_37, ↓e_Market_add_38, ↓e_Market_add_39, ↓e_Market_add_40, ↓e_Market_add_42, ↓e_Market_add_43, ↓e_Market_add_45, ↓e_Market_add_46, ↓e_Market_add_48, ↓e_Market_add_49, ↓e_Market_add_53, ↓e_Market_add_55, ↓e_Market_add_58, ↓e_Market_add_60, ↓e_Market_add_62, ↓e_Market_add_63, ↓e_Market_add_65, ↓e_Market_add_66, ↓e_Market_add_69, ↓e_Market_add_71, ↓e_Market_add_72, ↓e_Market_add_73, ↓e_Market_add_76, ↓e_Market_add_77, ↓e_Market_add_80, ↓e_Market_add_82, ↓e_Market_add_83, ↓e_Market_add_85, ↓e_Market_add_86, ↓e_Market_add_89, ↓e_Market_add_90, ↓e_Market_add_93, ↓e_Market_add_95, ↓e_Market_add_96, ↓e_Market_add_97, ↓e_Market_add_100, ↓e_Market_add_101, ↓e_Market_add_104, ↓e_Market_add_106, ↓e_Market_add_107, ↓e_Market_add_110, ↓e_Market_add_112, ↓e_Market_add_113, ↓e_Market_add_114, ↓e_Market_add_115, ↓e_Market_add_116, ↓e_Market_add_117, ↓e_Market_add_120, ↓e_Market_add_122, ↓e_Market_add_123, ↓e_Market_add_126, ↓e_Market_add_128, ↓e_Market_add_129, ↓e_Market_add_131, ↓e_Market_add_132, ↓e_Market_add_133, ↓e_Market_add_134, ↓e_Market_add_136, ↓e_Market_add_139, ↓e_Market_add_142, ↓e_Market_add_145, ↓e_Market_add_147, not_true_eq_false, not_false_eq_true, one0, true_or, or_true, eq_self, bI_z, bI_nz, bI_o, b_ft, bI_1, bI_0, ↓kC_l, ↓kC_r, Option.toList_some, Option.toList_none, List.cons_append, List.nil_append, s1_0, s1_1i, s1_1r, s1_1w, s1_1n, s1_s, s2_0, s2_1i, s2_1r, s2_1w, s2_1n, s2_s, gI_sI, gI_sR, gI_sL, gI_sD, gR_sI, gR_sR, gR_sL, gR_sD, gL_sI, gL_sR, gL_sL, gL_sD, gD_sI, gD_sR, gD_sL, gD_sD, isK_sI, isK_sR, isK_sL, isK_sD, inL_sI, inL_sR, inL_sL, inL_sD, nx_sI, nx_sR, nx_sL, nx_sD, kd_sI, kd_sR, kd_sL, kd_sD, ln_sI, ln_sR, ln_sL, ln_sD, ↓reduceIte, c8_n, c8_1, c8_2, c8_3, c8_4, Nat.reduceAdd, k_market Sg, k_bid Sg, k_pri Sg, k_tak Sg, k_wor Sg, k_wwo Sg, r_bid Sg, r_pri Sg, r_tak Sg, r_wor Sg, r_wwo Sg, lle_f (show 2 ^ c < 2147483648 by omega) hk, ii_succ, hor, nk, ns, l_wor Sg hk1, l_wor Sg hs1, l_tak Sg hk1, c1, (show ¬ (119 : Nat) = 0 by decide)]
      · have sk := M.le k
        have c1 : ¬ gI g 119 k = -1 := by rw [(I2 k hk).1, a2]; exact ii_m1 (by omega)
        have alt : a < 2048 := ms_lt (fun i hi => ⟨(m2 i hi).1.2.2.1, (m2 i hi).1.1⟩) a a1
        have g118 : gI g 118 k = ii a := by rw [(I2 k hk).2]; exact a3
        have andl : a &&& nd9 b x c < 2048 := Nat.and_lt_two_pow (n := 11) _ ndl
        rw [a1] at mh
        dsimp only at mh
        by_cases c3 : a &&& nd9 b x c = 0
        · rw [if_pos c3] at mh
          have c2 : gI g 118 k &&& ii (nd9 b x c) = 0 := by rw [g118, ii_and, c3]; rfl
          have hv : va9 b x (k + 2 ^ c) (c + 1) = true := by unfold va9; rw [mh]; rfl
          have hsum : gI g 119 k + ii (p c) = ii (sP p (k + 2 ^ c) (c + 1)) := by
            rw [(I2 k hk).1, a2, sP_high hk, ii_add]
          have hmask : gI g 118 k ||| ii (nd9 b x c) = ii (a ||| nd9 b x c) := by rw [g118, ii_or]
          generalize hg2 : sI (sI g 119 (k + 2 ^ c) (gI g 119 k + ii (p c))) 118 (k + 2 ^ c) (gI g 118 k ||| ii (nd9 b x c)) = g2
          have S2 : Str n g2 := by rw [← hg2]; exact (Sg.sI _ (by omega)).sI _ (by omega)
          have F2 : Fr (wA c) nW nW h0 g2 := by rw [← hg2]; exact (I1.sI _ (by unfold wA; omega)).sI _ (by unfold wA; omega)
          obtain ⟨g3, r1, r2, r3, r4, r5⟩ := q_weighX S2 hs1
          have w2 : gI g2 119 (k + 2 ^ c) = ii (sP p (k + 2 ^ c) (c + 1)) := by rw [← hg2, gI_sI, if_neg (by omega), gI_sI, if_pos ⟨rfl, rfl⟩]; exact hsum
          have t2 : gI g2 118 (k + 2 ^ c) = ii (a ||| nd9 b x c) := by rw [← hg2, gI_sI, if_pos ⟨rfl, rfl⟩]; exact hmask
          have y2 : gI g2 115 7 = ii (sP p (am b x p (c + 1) (2 ^ c + k)) (c + 1)) := by rw [← hg2, gI_sI, if_neg (by omega), gI_sI, if_neg (by omega)]; exact I5
          have v2 : gI g2 115 6 = ii (am b x p (c + 1) (2 ^ c + k)) := by rw [← hg2, gI_sI, if_neg (by omega), gI_sI, if_neg (by omega)]; exact I4
          have x2 : ∀ w, w < 5 → gI g2 120 w = ii (um b x p (c + 1) w (2 ^ c + k)) := fun w hw => by rw [← hg2, gI_sI, if_neg (by omega), gI_sI, if_neg (by omega)]; exact I6 w hw
          have bit : ∀ w, w < 5 → tb (ii (a ||| nd9 b x c)) (6 + w) = ho b w (k + 2 ^ c) (c + 1) := fun w hw => by
            rw [tb_ii _ (by omega)]
            exact ms_bit (c := 0) (fun i hi => (pr i hi).1.2.2.1) _ mh
          have l1 := sle (k + 2 ^ c)
          have l2 := sle (am b x p (c + 1) (2 ^ c + k))
          have ltw : (gI g2 115 7 < gI g2 119 (k + 2 ^ c)) = (sP p (am b x p (c + 1) (2 ^ c + k)) (c + 1) < sP p (k + 2 ^ c) (c + 1)) := by
            rw [w2, y2, ii_lt (by omega) (by omega)]
          simp only [ltw] at r3 r4
          rw [w2, y2] at r3
          rw [v2] at r4
          refine ⟨(g3, some (.inl (ii (k + 2 ^ c)))), fun Q => ?_, F2.trans (r2.mono (fun a j q => by unfold wG at q; unfold wA; omega) (fun _ _ q => q) (fun _ _ q => q)), fun s hs => ?_, fun s hs1 hs2 => ?_, ?_, ?_, fun w hw => ?_⟩
          · rw [e_Market_add_51]
            simp only [↓e_Market_add_0, ↓e_Market_add_1, ↓e_Market_add_4, ↓e_Market_add_6, ↓e_Market_add_7, ↓e_Market_add_8, ↓e_Market_add_11, ↓e_Market_add_12, ↓e_Market_add_13, ↓e_Market_add_16, ↓e_Market_add_17, ↓e_Market_add_20, ↓e_Market_add_22, ↓e_Market_add_23, ↓e_Market_add_24, ↓e_Market_add_25, ↓e_Market_add_28, ↓e_Market_add_30, ↓e_Market_add_31, ↓e_Market_add_32, ↓e_Market_add_33, ↓e_Market_add_34, ↓e_Market_add_36, ↓e_Market_add_37, ↓e_Market_add_38, ↓e_Market_add_39, ↓e_Market_add_40, ↓e_Market_add_42, ↓e_Market_add_43, ↓e_Market_add_45, ↓e_Market_add_46, ↓e_Market_add_48, ↓e_Market_add_49, ↓e_Market_add_53, ↓e_Market_add_55, ↓e_Market_add_58, ↓e_Market_add_60, ↓e_Market_add_62, ↓e_Market_add_63, ↓e_Market_add_65, ↓e_Market_add_66, ↓e_Market_add_69, ↓e_Market_add_71, ↓e_Market_add_72, ↓e_Market_add_73, ↓e_Market_add_76, ↓e_Market_add_77, ↓e_Market_add_80, ↓e_Market_add_82, ↓e_Market_add_83, ↓e_Market_add_85, ↓e_Market_add_86, ↓e_Market_add_89, ↓e_Market_add_90, ↓e_Market_add_93, ↓e_Market_add_95, ↓e_Market_add_96, ↓e_Market_add_97, ↓e_Market_add_100, ↓e_Market_add_101, ↓e_Market_add_104, ↓e_Market_add_106, ↓e_Market_add_107, ↓e_Market_add_110, ↓e_Market_add_112, ↓e_Market_add_113, ↓e_Market_add_114, ↓e_Market_add_115, ↓e_Market_add_116, ↓e_Market_add_117, ↓e_Market_add_120, ↓e_Market_add_122, ↓e_Market_add_123, ↓e_Market_add_126, ↓e_Market_add_128, ↓e_Market_add_129, ↓e_Market_add_131, ↓e_Market_add_132, ↓e_Market_add_133, ↓e_Market_add_134, ↓e_Market_add_136, ↓e_Market_add_139, ↓e_Market_add_142, ↓e_Market_add_145, ↓e_Market_add_147, not_true_eq_false, not_false_eq_true, one0, true_or, or_true, eq_self, bI_z, bI_nz, bI_o, b_ft, bI_1, bI_0, ↓kC_l, ↓kC_r, Option.toList_some, Option.toList_none, List.cons_append, List.nil_append, s1_0, s1_1i, s1_1r, s1_1w, s1_1n, s1_s, s2_0, s2_1i, s2_1r, s2_1w, s2_1n, s2_s, gI_sI, gI_sR, gI_sL, gI_sD, gR_sI, gR_sR, gR_sL, gR_sD, gL_sI, gL_sR, gL_sL, gL_sD, gD_sI, gD_sR, gD_sL, gD_sD, isK_sI, isK_sR, isK_sL, isK_sD, inL_sI, inL_sR, inL_sL, inL_sD, nx_sI, nx_sR, nx_sL, nx_sD, kd_sI, kd_sR, kd_sL, kd_sD, ln_sI, ln_sR, ln_sL, ln_sD, ↓reduceIte, c8_n, c8_1, c8_2, c8_3, c8_4, Nat.reduceAdd, k_market Sg, k_bid Sg, k_pri Sg, k_tak Sg, k_wor Sg, k_wwo Sg, r_bid Sg, r_pri Sg, r_tak Sg, r_wor Sg, r_wwo Sg, lle_f (show 2 ^ c < 2147483648 by omega) hk, ii_succ, hor, nk, ns, l_wor Sg hk1, l_wor Sg hs1, l_tak Sg hk1, l_tak Sg hs1, c1, c2, (show ¬ (119 : Nat) = 0 by decide), (show ¬ (118 : Nat) = 0 by decide), (show ¬ (118 : Nat) = 119 by decide), false_and, hg2, k_market S2, r1]
          · rw [r2.1 119 s (by unfold wG; omega), r2.1 118 s (by unfold wG; omega), ← hg2, gI_sI, if_neg (by omega), gI_sI, if_neg (by omega), gI_sI, if_neg (by omega), gI_sI, if_neg (by omega)]
            exact I2 s hs
          · unfold TW9
            rw [r2.1 119 s (by unfold wG; omega), r2.1 118 s (by unfold wG; omega)]
            by_cases e : s = k + 2 ^ c
            · subst e; exact Or.inr ⟨_, mh, w2, t2⟩
            · rw [← hg2, gI_sI, if_neg (by omega), gI_sI, if_neg (by omega), gI_sI, if_neg (by omega), gI_sI, if_neg (by omega)]
              exact I3 s hs1 (by omega)
          · rw [r4, am1]
            by_cases q : sP p (am b x p (c + 1) (2 ^ c + k)) (c + 1) < sP p (k + 2 ^ c) (c + 1)
            · rw [if_pos q, if_pos ⟨hv, q⟩]
            · rw [if_neg q, if_neg (fun z => q z.2)]
          · rw [r3, am1]
            by_cases q : sP p (am b x p (c + 1) (2 ^ c + k)) (c + 1) < sP p (k + 2 ^ c) (c + 1)
            · rw [if_pos q, if_pos ⟨hv, q⟩]
            · rw [if_neg q, if_neg (fun z => q z.2)]
          · have l3 := ule w (2 ^ c + k)
            have ltu : (ii (um b x p (c + 1) w (2 ^ c + k)) < ii (sP p (k + 2 ^ c) (c + 1))) = (um b x p (c + 1) w (2 ^ c + k) < sP p (k + 2 ^ c) (c + 1)) := ii_lt (by omega) (by omega)
            rw [r5 w hw, t2, w2, x2 w hw, bit w hw, um1]
            simp only [ltu]
            cases hh : ho b w (k + 2 ^ c) (c + 1) with
            | true => rw [if_neg (by simp), if_neg (fun z => by cases z.2.1)]
            | false =>
              by_cases q : um b x p (c + 1) w (2 ^ c + k) < sP p (k + 2 ^ c) (c + 1)
              · rw [if_pos (by simp [q]), if_pos ⟨hv, rfl, q⟩]
              · rw [if_neg (by simp [q]), if_neg (fun z => q z.2.2)]
        · rw [if_neg c3] at mh
          have c2 : ¬ gI g 118 k &&& ii (nd9 b x c) = 0 := by
            rw [g118, ii_and, show (0 : Int32) = ii 0 from rfl, ii_inj (by omega) (by omega)]
            exact c3
          refine ⟨(sI g 119 (k + 2 ^ c) (-1), some (.inl (ii (k + 2 ^ c)))), fun Q => ?_, bad mh⟩
          rw [e_Market_add_51]
          simp only [↓e_Market_add_0, ↓e_Market_add_1, ↓e_Market_add_4, ↓e_Market_add_6, ↓e_Market_add_7, ↓e_Market_add_8, ↓e_Market_add_11, ↓e_Market_add_12, ↓e_Market_add_13, ↓e_Market_add_16, ↓e_Market_add_17, ↓e_Market_add_20, ↓e_Market_add_22, ↓e_Market_add_23, ↓e_Market_add_24, ↓e_Market_add_25, ↓e_Market_add_28, ↓e_Market_add_30, ↓e_Market_add_31, ↓e_Market_add_32, ↓e_Market_add_33, ↓e_Market_add_34, ↓e_Market_add_36, ↓e_Market_add_37, ↓e_Market_add_38, ↓e_Market_add_39, ↓e_Market_add_40, ↓e_Market_add_42, ↓e_Market_add_43, ↓e_Market_add_45, ↓e_Market_add_46, ↓e_Market_add_48, ↓e_Market_add_49, ↓e_Market_add_53, ↓e_Market_add_55, ↓e_Market_add_58, ↓e_Market_add_60, ↓e_Market_add_62, ↓e_Market_add_63, ↓e_Market_add_65, ↓e_Market_add_66, ↓e_Market_add_69, ↓e_Market_add_71, ↓e_Market_add_72, ↓e_Market_add_73, ↓e_Market_add_76, ↓e_Market_add_77, ↓e_Market_add_80, ↓e_Market_add_82, ↓e_Market_add_83, ↓e_Market_add_85, ↓e_Market_add_86, ↓e_Market_add_89, ↓e_Market_add_90, ↓e_Market_add_93, ↓e_Market_add_95, ↓e_Market_add_96, ↓e_Market_add_97, ↓e_Market_add_100, ↓e_Market_add_101, ↓e_Market_add_104, ↓e_Market_add_106, ↓e_Market_add_107, ↓e_Market_add_110, ↓e_Market_add_112, ↓e_Market_add_113, ↓e_Market_add_114, ↓e_Market_add_115, ↓e_Market_add_116, ↓e_Market_add_117, ↓e_Market_add_120, ↓e_Market_add_122, ↓e_Market_add_123, ↓e_Market_add_126, ↓e_Market_add_128, ↓e_Market_add_129, ↓e_Market_add_131, ↓e_Market_add_132, ↓e_Market_add_133, ↓e_Market_add_134, ↓e_Market_add_136, ↓e_Market_add_139, ↓e_Market_add_142, ↓e_Market_add_145, ↓e_Market_add_147, not_true_eq_false, not_false_eq_true, one0, true_or, or_true, eq_self, bI_z, bI_nz, bI_o, b_ft, bI_1, bI_0, ↓kC_l, ↓kC_r, Option.toList_some, Option.toList_none, List.cons_append, List.nil_append, s1_0, s1_1i, s1_1r, s1_1w, s1_1n, s1_s, s2_0, s2_1i, s2_1r, s2_1w, s2_1n, s2_s, gI_sI, gI_sR, gI_sL, gI_sD, gR_sI, gR_sR, gR_sL, gR_sD, gL_sI, gL_sR, gL_sL, gL_sD, gD_sI, gD_sR, gD_sL, gD_sD, isK_sI, isK_sR, isK_sL, isK_sD, inL_sI, inL_sR, inL_sL, inL_sD, nx_sI, nx_sR, nx_sL, nx_sD, kd_sI, kd_sR, kd_sL, kd_sD, ln_sI, ln_sR, ln_sL, ln_sD, ↓reduceIte, c8_n, c8_1, c8_2, c8_3, c8_4, Nat.reduceAdd, k_market Sg, k_bid Sg, k_pri Sg, k_tak Sg, k_wor Sg, k_wwo Sg, r_bid Sg, r_pri Sg, r_tak Sg, r_wor Sg, r_wwo Sg, lle_f (show 2 ^ c < 2147483648 by omega) hk, ii_succ, hor, nk, ns, l_wor Sg hk1, l_wor Sg hs1, l_tak Sg hk1, c1, c2, (show ¬ (119 : Nat) = 0 by decide)]) (2 ^ c) 0 (h0, none) (by omega)
    (by
      have al : am b x p c (2 ^ c) < 2 ^ c := am_lt hp0
      refine ⟨Fr.refl h0, fun s _ => ⟨gother _ _ (by omega), gother _ _ (by omega)⟩, fun s q1 q2 => by omega, ?_, ?_, fun w hw => ?_⟩
      · rw [gother 115 6 (by omega), Nat.add_zero (2 ^ c), am_up (Nat.le_refl _)]; exact m5
      · rw [gother 115 7 (by omega), Nat.add_zero (2 ^ c), am_up (Nat.le_refl _), sP_low al]; exact m6
      · rw [gother 120 w (by omega), Nat.add_zero (2 ^ c), um_up (Nat.le_refl _)]; exact m7 w hw)
  dsimp only at e1 F1 z1 z2 z3 z4 z5
  have S1 : Str n g := S0.fr F1 (by unfold wA; omega)
  refine ⟨g, fun Q => ?_, F0.trans (F1.mono (fun a k q => by unfold wA at q; unfold wM; omega) (fun _ _ q => q) (fun _ _ q => q)), (F1.1 115 8 (by unfold wA; omega)).trans (gother 115 8 (by omega))⟩
  · have hbit : (1 <<< (ii c &&& 31) : Int32) = ii (2 ^ c) := bitN_eq c (by omega)
    simp only [↓e_Market_add_0, ↓e_Market_add_1, ↓e_Market_add_4, ↓e_Market_add_6, ↓e_Market_add_7, ↓e_Market_add_8, ↓e_Market_add_11, ↓e_Market_add_12, ↓e_Market_add_13, ↓e_Market_add_16, ↓e_Market_add_17, ↓e_Market_add_20, ↓e_Market_add_22, ↓e_Market_add_23, ↓e_Market_add_24, ↓e_Market_add_25, ↓e_Market_add_28, ↓e_Market_add_30, ↓e_Market_add_31, ↓e_Market_add_32, ↓e_Market_add_33, ↓e_Market_add_34, ↓e_Market_add_36, ↓e_Market_add_37, ↓e_Market_add_38, ↓e_Market_add_39, ↓e_Market_add_40, ↓e_Market_add_42, ↓e_Market_add_43, ↓e_Market_add_45, ↓e_Market_add_46, ↓e_Market_add_48, ↓e_Market_add_49, ↓e_Market_add_53, ↓e_Market_add_55, ↓e_Market_add_58, ↓e_Market_add_60, ↓e_Market_add_62, ↓e_Market_add_63, ↓e_Market_add_65, ↓e_Market_add_66, ↓e_Market_add_69, ↓e_Market_add_71, ↓e_Market_add_72, ↓e_Market_add_73, ↓e_Market_add_76, ↓e_Market_add_77, ↓e_Market_add_80, ↓e_Market_add_82, ↓e_Market_add_83, ↓e_Market_add_85, ↓e_Market_add_86, ↓e_Market_add_89, ↓e_Market_add_90, ↓e_Market_add_93, ↓e_Market_add_95, ↓e_Market_add_96, ↓e_Market_add_97, ↓e_Market_add_100, ↓e_Market_add_101, ↓e_Market_add_104, ↓e_Market_add_106, ↓e_Market_add_107, ↓e_Market_add_110, ↓e_Market_add_112, ↓e_Market_add_113, ↓e_Market_add_114, ↓e_Market_add_115, ↓e_Market_add_116, ↓e_Market_add_117, ↓e_Market_add_120, ↓e_Market_add_122, ↓e_Market_add_123, ↓e_Market_add_126, ↓e_Market_add_128, ↓e_Market_add_129, ↓e_Market_add_131, ↓e_Market_add_132, ↓e_Market_add_133, ↓e_Market_add_134, ↓e_Market_add_136, ↓e_Market_add_139, ↓e_Market_add_142, ↓e_Market_add_145, ↓e_Market_add_147, not_true_eq_false, not_false_eq_true, one0, true_or, or_true, eq_self, bI_z, bI_nz, bI_o, b_ft, bI_1, bI_0, ↓kC_l, ↓kC_r, Option.toList_some, Option.toList_none, List.cons_append, List.nil_append, s1_0, s1_1i, s1_1r, s1_1w, s1_1n, s1_s, s2_0, s2_1i, s2_1r, s2_1w, s2_1n, s2_s, gI_sI, gI_sR, gI_sL, gI_sD, gR_sI, gR_sR, gR_sL, gR_sD, gL_sI, gL_sR, gL_sL, gL_sD, gD_sI, gD_sR, gD_sL, gD_sD, isK_sI, isK_sR, isK_sL, isK_sD, inL_sI, inL_sR, inL_sL, inL_sD, nx_sI, nx_sR, nx_sL, nx_sD, kd_sI, kd_sR, kd_sL, kd_sD, ln_sI, ln_sR, ln_sL, ln_sD, ↓reduceIte, c8_n, c8_1, c8_2, c8_3, c8_4, Nat.reduceAdd, k_market S, k_bid S, k_pri S, k_tak S, k_wor S, k_wwo S, r_bid S, r_pri S, r_tak S, r_wor S, r_wwo S, hc, ii_succ, l_bid S hc10, l_pri S hc10, ii_nat (show c < 2147483648 by omega), (show ¬ (116 : Nat) = 0 by decide), (show ¬ (117 : Nat) = 0 by decide), hh0, hnd, hbit]
    refine (e1 Q).trans ?_
    rw [e_Market_add_51]
    simp only [↓e_Market_add_0, ↓e_Market_add_1, ↓e_Market_add_4, ↓e_Market_add_6, ↓e_Market_add_7, ↓e_Market_add_8, ↓e_Market_add_11, ↓e_Market_add_12, ↓e_Market_add_13, ↓e_Market_add_16, ↓e_Market_add_17, ↓e_Market_add_20, ↓e_Market_add_22, ↓e_Market_add_23, ↓e_Market_add_24, ↓e_Market_add_25, ↓e_Market_add_28, ↓e_Market_add_30, ↓e_Market_add_31, ↓e_Market_add_32, ↓e_Market_add_33, ↓e_Market_add_34, ↓e_Market_add_36, ↓e_Market_add_37, ↓e_Market_add_38, ↓e_Market_add_39, ↓e_Market_add_40, ↓e_Market_add_42, ↓e_Market_add_43, ↓e_Market_add_45, ↓e_Market_add_46, ↓e_Market_add_48, ↓e_Market_add_49, ↓e_Market_add_53, ↓e_Market_add_55, ↓e_Market_add_58, ↓e_Market_add_60, ↓e_Market_add_62, ↓e_Market_add_63, ↓e_Market_add_65, ↓e_Market_add_66, ↓e_Market_add_69, ↓e_Market_add_71, ↓e_Market_add_72, ↓e_Market_add_73, ↓e_Market_add_76, ↓e_Market_add_77, ↓e_Market_add_80, ↓e_Market_add_82, ↓e_Market_add_83, ↓e_Market_add_85, ↓e_Market_add_86, ↓e_Market_add_89, ↓e_Market_add_90, ↓e_Market_add_93, ↓e_Market_add_95, ↓e_Market_add_96, ↓e_Market_add_97, ↓e_Market_add_100, ↓e_Market_add_101, ↓e_Market_add_104, ↓e_Market_add_106, ↓e_Market_add_107, ↓e_Market_add_110, ↓e_Market_add_112, ↓e_Market_add_113, ↓e_Market_add_114, ↓e_Market_add_115, ↓e_Market_add_116, ↓e_Market_add_117, ↓e_Market_add_120, ↓e_Market_add_122, ↓e_Market_add_123, ↓e_Market_add_126, ↓e_Market_add_128, ↓e_Market_add_129, ↓e_Market_add_131, ↓e_Market_add_132, ↓e_Market_add_133, ↓e_Market_add_134, ↓e_Market_add_136, ↓e_Market_add_139, ↓e_Market_add_142, ↓e_Market_add_145, ↓e_Market_add_147, not_true_eq_false, not_false_eq_true, one0, true_or, or_true, eq_self, bI_z, bI_nz, bI_o, b_ft, bI_1, bI_0, ↓kC_l, ↓kC_r, Option.toList_some, Option.toList_none, List.cons_append, List.nil_append, s1_0, s1_1i, s1_1r, s1_1w, s1_1n, s1_s, s2_0, s2_1i, s2_1r, s2_1w, s2_1n, s2_s, gI_sI, gI_sR, gI_sL, gI_sD, gR_sI, gR_sR, gR_sL, gR_sD, gL_sI, gL_sR, gL_sL, gL_sD, gD_sI, gD_sR, gD_sL, gD_sD, isK_sI, isK_sR, isK_sL, isK_sD, inL_sI, inL_sR, inL_sL, inL_sD, nx_sI, nx_sR, nx_sL, nx_sD, kd_sI, kd_sR, kd_sL, kd_sD, ln_sI, ln_sR, ln_sL, ln_sD, ↓reduceIte, c8_n, c8_1, c8_2, c8_3, c8_4, Nat.reduceAdd, k_market S1, k_bid S1, k_pri S1, k_tak S1, k_wor S1, k_wwo S1, r_bid S1, r_pri S1, r_tak S1, r_wor S1, r_wwo S1, lle_t (show 2 ^ c < 2147483648 by omega)]
theorem vk_bid (L : LV n B T h) (hr : okR cM sM h 1 6 = true) (M : MX b9 x9 p9 m h) (x y z : Int32) : ∃ rs h', (∀ Q, WP Gm j_S_bid 0 [some (.inr (.inl (some 1))), some (.inl x), some (.inl y), some (.inl z)] [] h Q = Q rs h') ∧ KA h h' := by
  have S := L.1.1.1
  have hnx : 121 ≤ nx h := S.1.1
  have hc := M.2.2.1
  have m10 := M.1
  cases e1 : (decide (0 ≤ x) && decide (x ≤ 4)) with
  | false => exact ⟨.inr 0, _, fun Q => by simp only [↓e_S_bid_0, ↓e_S_bid_1, ↓e_S_bid_2, ↓e_S_bid_3, ↓e_S_bid_6, ↓e_S_bid_9, ↓e_S_bid_10, ↓e_S_bid_11, ↓e_S_bid_13, ↓e_S_bid_16, ↓e_S_bid_19, ↓e_S_bid_20, ↓e_S_bid_21, ↓e_S_bid_24, ↓e_S_bid_27, ↓e_S_bid_30, ↓e_S_bid_40, ↓e_S_bid_41, ↓e_S_bid_44, ↓e_S_bid_47, ↓e_S_bid_49, ↓e_S_bid_52, ↓e_S_bid_62, ↓e_S_bid_63, ↓e_S_bid_66, ↓e_S_bid_67, ↓e_S_bid_68, ↓e_S_bid_69, ↓e_S_bid_72, not_true_eq_false, not_false_eq_true, one0, true_or, or_true, eq_self, bI_z, bI_nz, bI_o, b_ft, bI_1, bI_0, ↓kC_l, ↓kC_r, Option.toList_some, Option.toList_none, List.cons_append, List.nil_append, s1_0, s1_1i, s1_1r, s1_1w, s1_1n, s1_s, s2_0, s2_1i, s2_1r, s2_1w, s2_1n, s2_s, gI_sI, gI_sR, gI_sL, gI_sD, gR_sI, gR_sR, gR_sL, gR_sD, gL_sI, gL_sR, gL_sL, gL_sD, gD_sI, gD_sR, gD_sL, gD_sD, isK_sI, isK_sR, isK_sL, isK_sD, inL_sI, inL_sR, inL_sL, inL_sD, nx_sI, nx_sR, nx_sL, nx_sD, kd_sI, kd_sR, kd_sL, kd_sD, ln_sI, ln_sR, ln_sL, ln_sD, ↓reduceIte, c8_n, c8_1, c8_2, c8_3, c8_4, Nat.reduceAdd, k_s S, k_land S, k_nodes S, k_hear S, k_routes S, k_traffic S, k_market S, g_cnt S, r_land S, r_routes S, r_traffic S, r_market S, r_nodes S, r_hear S, r_rland S, r_tland S, r_troutes S, q_isWithin, e1, hr], KA.exc hnx kc_IllegalArgumentException⟩
  | true =>
    cases e2 : (decide (1 ≤ y) && decide (y ≤ 63)) with
    | false => exact ⟨.inr 0, _, fun Q => by simp only [↓e_S_bid_0, ↓e_S_bid_1, ↓e_S_bid_2, ↓e_S_bid_3, ↓e_S_bid_6, ↓e_S_bid_9, ↓e_S_bid_10, ↓e_S_bid_11, ↓e_S_bid_13, ↓e_S_bid_16, ↓e_S_bid_19, ↓e_S_bid_20, ↓e_S_bid_21, ↓e_S_bid_24, ↓e_S_bid_27, ↓e_S_bid_30, ↓e_S_bid_40, ↓e_S_bid_41, ↓e_S_bid_44, ↓e_S_bid_47, ↓e_S_bid_49, ↓e_S_bid_52, ↓e_S_bid_62, ↓e_S_bid_63, ↓e_S_bid_66, ↓e_S_bid_67, ↓e_S_bid_68, ↓e_S_bid_69, ↓e_S_bid_72, not_true_eq_false, not_false_eq_true, one0, true_or, or_true, eq_self, bI_z, bI_nz, bI_o, b_ft, bI_1, bI_0, ↓kC_l, ↓kC_r, Option.toList_some, Option.toList_none, List.cons_append, List.nil_append, s1_0, s1_1i, s1_1r, s1_1w, s1_1n, s1_s, s2_0, s2_1i, s2_1r, s2_1w, s2_1n, s2_s, gI_sI, gI_sR, gI_sL, gI_sD, gR_sI, gR_sR, gR_sL, gR_sD, gL_sI, gL_sR, gL_sL, gL_sD, gD_sI, gD_sR, gD_sL, gD_sD, isK_sI, isK_sR, isK_sL, isK_sD, inL_sI, inL_sR, inL_sL, inL_sD, nx_sI, nx_sR, nx_sL, nx_sD, kd_sI, kd_sR, kd_sL, kd_sD, ln_sI, ln_sR, ln_sL, ln_sD, ↓reduceIte, c8_n, c8_1, c8_2, c8_3, c8_4, Nat.reduceAdd, k_s S, k_land S, k_nodes S, k_hear S, k_routes S, k_traffic S, k_market S, g_cnt S, r_land S, r_routes S, r_traffic S, r_market S, r_nodes S, r_hear S, r_rland S, r_tland S, r_troutes S, q_isWithin, e1, e2, hr], KA.exc hnx kc_IllegalArgumentException⟩
    | true =>
      cases e3 : (decide (1 ≤ z) && decide (z ≤ 999)) with
      | false => exact ⟨.inr 0, _, fun Q => by simp only [↓e_S_bid_0, ↓e_S_bid_1, ↓e_S_bid_2, ↓e_S_bid_3, ↓e_S_bid_6, ↓e_S_bid_9, ↓e_S_bid_10, ↓e_S_bid_11, ↓e_S_bid_13, ↓e_S_bid_16, ↓e_S_bid_19, ↓e_S_bid_20, ↓e_S_bid_21, ↓e_S_bid_24, ↓e_S_bid_27, ↓e_S_bid_30, ↓e_S_bid_40, ↓e_S_bid_41, ↓e_S_bid_44, ↓e_S_bid_47, ↓e_S_bid_49, ↓e_S_bid_52, ↓e_S_bid_62, ↓e_S_bid_63, ↓e_S_bid_66, ↓e_S_bid_67, ↓e_S_bid_68, ↓e_S_bid_69, ↓e_S_bid_72, not_true_eq_false, not_false_eq_true, one0, true_or, or_true, eq_self, bI_z, bI_nz, bI_o, b_ft, bI_1, bI_0, ↓kC_l, ↓kC_r, Option.toList_some, Option.toList_none, List.cons_append, List.nil_append, s1_0, s1_1i, s1_1r, s1_1w, s1_1n, s1_s, s2_0, s2_1i, s2_1r, s2_1w, s2_1n, s2_s, gI_sI, gI_sR, gI_sL, gI_sD, gR_sI, gR_sR, gR_sL, gR_sD, gL_sI, gL_sR, gL_sL, gL_sD, gD_sI, gD_sR, gD_sL, gD_sD, isK_sI, isK_sR, isK_sL, isK_sD, inL_sI, inL_sR, inL_sL, inL_sD, nx_sI, nx_sR, nx_sL, nx_sD, kd_sI, kd_sR, kd_sL, kd_sD, ln_sI, ln_sR, ln_sL, ln_sD, ↓reduceIte, c8_n, c8_1, c8_2, c8_3, c8_4, Nat.reduceAdd, k_s S, k_land S, k_nodes S, k_hear S, k_routes S, k_traffic S, k_market S, g_cnt S, r_land S, r_routes S, r_traffic S, r_market S, r_nodes S, r_hear S, r_rland S, r_tland S, r_troutes S, q_isWithin, e1, e2, e3, hr], KA.exc hnx kc_IllegalArgumentException⟩
      | true =>
        have e10 : (ii m < (10 : Int32)) = (m < 10) := ii_lt (j := 10) (by omega) (by omega)
        by_cases h10 : m < 10
        · obtain ⟨b, b1, rfl⟩ := i32_cases (b := 4) (by omega) e1
          obtain ⟨y1, y2, y3, rfl⟩ := i32_cases1 (a := 1) (b := 63) (by omega) e2 (by omega)
          obtain ⟨q1, q2, q3, rfl⟩ := i32_cases1 (a := 1) (b := 999) (by omega) e3 (by omega)
          have he : ∀ k, k < m → (fun k => if k = m then b else b9 k) k = b9 k ∧ (fun k => if k = m then y1 else x9 k) k = x9 k ∧ (fun k => if k = m then q1 else p9 k) k = p9 k := fun k hk => ⟨if_neg (by omega), if_neg (by omega), if_neg (by omega)⟩
          obtain ⟨u, u1, u2, u3⟩ := q_addX8 S h10 (M.cong he) (by simp only [eq_self, ↓reduceIte]; omega)
          simp only [eq_self, ↓reduceIte] at u1
          refine ⟨.inl (some (.inl (ii m))), u, fun Q => ?_, fun a k _ _ => u2.1 _ _ (by unfold wM; omega), u3, fun a k _ => u2.2.1 _ _ (fun w => w), fun a k _ => u2.2.2.1 _ _ (fun w => w)⟩
          simp only [↓e_S_bid_0, ↓e_S_bid_1, ↓e_S_bid_2, ↓e_S_bid_3, ↓e_S_bid_6, ↓e_S_bid_9, ↓e_S_bid_10, ↓e_S_bid_11, ↓e_S_bid_13, ↓e_S_bid_16, ↓e_S_bid_19, ↓e_S_bid_20, ↓e_S_bid_21, ↓e_S_bid_24, ↓e_S_bid_27, ↓e_S_bid_30, ↓e_S_bid_40, ↓e_S_bid_41, ↓e_S_bid_44, ↓e_S_bid_47, ↓e_S_bid_49, ↓e_S_bid_52, ↓e_S_bid_62, ↓e_S_bid_63, ↓e_S_bid_66, ↓e_S_bid_67, ↓e_S_bid_68, ↓e_S_bid_69, ↓e_S_bid_72, not_true_eq_false, not_false_eq_true, one0, true_or, or_true, eq_self, bI_z, bI_nz, bI_o, b_ft, bI_1, bI_0, ↓kC_l, ↓kC_r, Option.toList_some, Option.toList_none, List.cons_append, List.nil_append, s1_0, s1_1i, s1_1r, s1_1w, s1_1n, s1_s, s2_0, s2_1i, s2_1r, s2_1w, s2_1n, s2_s, gI_sI, gI_sR, gI_sL, gI_sD, gR_sI, gR_sR, gR_sL, gR_sD, gL_sI, gL_sR, gL_sL, gL_sD, gD_sI, gD_sR, gD_sL, gD_sD, isK_sI, isK_sR, isK_sL, isK_sD, inL_sI, inL_sR, inL_sL, inL_sD, nx_sI, nx_sR, nx_sL, nx_sD, kd_sI, kd_sR, kd_sL, kd_sD, ln_sI, ln_sR, ln_sL, ln_sD, ↓reduceIte, c8_n, c8_1, c8_2, c8_3, c8_4, Nat.reduceAdd, k_s S, k_land S, k_nodes S, k_hear S, k_routes S, k_traffic S, k_market S, g_cnt S, r_land S, r_routes S, r_traffic S, r_market S, r_nodes S, r_hear S, r_rland S, r_tland S, r_troutes S, q_isWithin, e1, e2, e3, Bool.true_eq_false, hc, e10, h10, u1]
        · exact ⟨.inr 1, _, fun Q => by simp only [↓e_S_bid_0, ↓e_S_bid_1, ↓e_S_bid_2, ↓e_S_bid_3, ↓e_S_bid_6, ↓e_S_bid_9, ↓e_S_bid_10, ↓e_S_bid_11, ↓e_S_bid_13, ↓e_S_bid_16, ↓e_S_bid_19, ↓e_S_bid_20, ↓e_S_bid_21, ↓e_S_bid_24, ↓e_S_bid_27, ↓e_S_bid_30, ↓e_S_bid_40, ↓e_S_bid_41, ↓e_S_bid_44, ↓e_S_bid_47, ↓e_S_bid_49, ↓e_S_bid_52, ↓e_S_bid_62, ↓e_S_bid_63, ↓e_S_bid_66, ↓e_S_bid_67, ↓e_S_bid_68, ↓e_S_bid_69, ↓e_S_bid_72, not_true_eq_false, not_false_eq_true, one0, true_or, or_true, eq_self, bI_z, bI_nz, bI_o, b_ft, bI_1, bI_0, ↓kC_l, ↓kC_r, Option.toList_some, Option.toList_none, List.cons_append, List.nil_append, s1_0, s1_1i, s1_1r, s1_1w, s1_1n, s1_s, s2_0, s2_1i, s2_1r, s2_1w, s2_1n, s2_s, gI_sI, gI_sR, gI_sL, gI_sD, gR_sI, gR_sR, gR_sL, gR_sD, gL_sI, gL_sR, gL_sL, gL_sD, gD_sI, gD_sR, gD_sL, gD_sD, isK_sI, isK_sR, isK_sL, isK_sD, inL_sI, inL_sR, inL_sL, inL_sD, nx_sI, nx_sR, nx_sL, nx_sD, kd_sI, kd_sR, kd_sL, kd_sD, ln_sI, ln_sR, ln_sL, ln_sD, ↓reduceIte, c8_n, c8_1, c8_2, c8_3, c8_4, Nat.reduceAdd, k_s S, k_land S, k_nodes S, k_hear S, k_routes S, k_traffic S, k_market S, g_cnt S, r_land S, r_routes S, r_traffic S, r_market S, r_nodes S, r_hear S, r_rland S, r_tland S, r_troutes S, q_isWithin, e1, e2, e3, Bool.true_eq_false, hc, e10, h10, hr], KA.exc hnx kc_IllegalStateException⟩
theorem vk_sell (L : LV n B T h) (hB : B ≤ 2000) (W : FN n h) (V : CA n h α) (M : MX b9 x9 p9 m h) (b' x' p' : Nat → Nat) : ∃ h', (∀ Q, WP Gm j_S_sell 0 [some (.inr (.inl (some 1)))] [] h Q = Q (.inl (some (.inl (all9 b9 x9 p9 m)))) h') ∧ CCg 121 n (T + 1) h h' ∧ MX b' x' p' 0 h' ∧ CA n h' (asV α 50 8 (α.1 50 8 + all9 b9 x9 p9 m)) := by
  have S := L.1.1.1
  obtain ⟨v, h1, r1, cc⟩ := c_sell L hB W
  obtain ⟨u, u1, uF, u3, u4, u5⟩ := q_sellAllX S M M.z8 b' x' p'
  have r2 : ∀ Q, WP Gm j_S_sell 0 [some (.inr (.inl (some 1)))] [] h Q = Q (.inl (some (.inl (all9 b9 x9 p9 m)))) u := fun Q => by simp only [↓e_S_sell_0, ↓e_S_sell_1, ↓e_S_sell_4, ↓e_S_sell_7, not_true_eq_false, not_false_eq_true, one0, true_or, or_true, eq_self, bI_z, bI_nz, bI_o, b_ft, bI_1, bI_0, ↓kC_l, ↓kC_r, Option.toList_some, Option.toList_none, List.cons_append, List.nil_append, s1_0, s1_1i, s1_1r, s1_1w, s1_1n, s1_s, s2_0, s2_1i, s2_1r, s2_1w, s2_1n, s2_s, gI_sI, gI_sR, gI_sL, gI_sD, gR_sI, gR_sR, gR_sL, gR_sD, gL_sI, gL_sR, gL_sL, gL_sD, gD_sI, gD_sR, gD_sL, gD_sD, isK_sI, isK_sR, isK_sL, isK_sD, inL_sI, inL_sR, inL_sL, inL_sD, nx_sI, nx_sR, nx_sL, nx_sD, kd_sI, kd_sR, kd_sL, kd_sD, ln_sI, ln_sR, ln_sL, ln_sD, ↓reduceIte, c8_n, c8_1, c8_2, c8_3, c8_4, Nat.reduceAdd, k_s S, k_land S, k_nodes S, k_hear S, k_routes S, k_traffic S, k_market S, g_cnt S, r_land S, r_routes S, r_traffic S, r_market S, r_nodes S, r_hear S, r_rland S, r_tland S, r_troutes S, u1]
  obtain ⟨-, rfl⟩ := det r1 r2
  refine ⟨h1, r2, cc, u3, V.pay (n8 S) (fun a k _ _ => uF.1 _ _ (by unfold wM; omega)) (fun a k _ => uF.2.1 _ _ (fun w => w)) (fun a k _ => uF.2.2.1 _ _ (fun w => w)) ?_⟩
  rw [u5, V.2.2.2.2.1.2.2]
end XLA
