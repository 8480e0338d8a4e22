/-! pmmark2: a list is cleared; the reference's bid, sell, auction, exchange -/
section MM2
variable {τ : Nat → Nat} {n A c B : Nat} {K : Int32} {p : Nat → Nat} {h h' : Hp}
theorem q_zclear {l r k : Nat} {E : Nat → Nat → Prop} (L : Lst τ h l r E k c) : ∃ h', (∀ Q, WP Gm j_ArrayList_clear 0 [some (.inr (.inl (some l))), none, none, none] [] h Q = Q (.inl none) h') ∧ Ext τ h τ h' ∧ Ag τ (fun s => s = τ l ∨ s = r) h h' ∧ Lst τ h' l r E 0 c ∧ nx h' = nx h ∧ sc h' = sc h := by
  obtain ⟨a, L1, d, he⟩ := id L
  have kl := L1.k
  have hb := L1.b
  generalize hg0 : sI (sI h l 0 (gI h l 0 + 1)) l 2 0 = g0
  have X0 : Ext τ h τ g0 := by rw [← hg0]; exact Ext.refl τ h
  have G0 : Ag τ (fun s => s = τ l ∨ s = r) h g0 := by rw [← hg0]; exact ((Ag.refl _ h).sI (Or.inl rfl)).sI (Or.inl rfl)
  have r0 : gR g0 l 1 = some a := by rw [← hg0]; exact L1.r
  have s0 : gI g0 l 2 = ii 0 := by rw [← hg0, gI_sI, if_pos ⟨rfl, rfl⟩]; rfl
  have pre : ∀ Q, WP Gm j_ArrayList_clear 0 [some (.inr (.inl (some l))), none, none, none] [] h Q = WP Gm j_ArrayList_clear 27 [some (.inr (.inl (some l))), some (.inr (.inl (some a))), some (.inl (ii k)), some (.inl (ii 0))] [] g0 Q := by
    intro Q
    simp only [↓e_ArrayList_clear_0, ↓e_ArrayList_clear_1, ↓e_ArrayList_clear_2, ↓e_ArrayList_clear_5, ↓e_ArrayList_clear_6, ↓e_ArrayList_clear_7, ↓e_ArrayList_clear_10, ↓e_ArrayList_clear_11, ↓e_ArrayList_clear_14, ↓e_ArrayList_clear_15, ↓e_ArrayList_clear_16, ↓e_ArrayList_clear_19, ↓e_ArrayList_clear_20, ↓e_ArrayList_clear_21, ↓e_ArrayList_clear_22, ↓e_ArrayList_clear_23, ↓e_ArrayList_clear_26, ↓e_ArrayList_clear_28, ↓e_ArrayList_clear_29, ↓e_ArrayList_clear_32, ↓e_ArrayList_clear_33, ↓e_ArrayList_clear_34, ↓e_ArrayList_clear_35, ↓e_ArrayList_clear_36, ↓e_ArrayList_clear_39, ↓e_ArrayList_clear_42, not_true_eq_false, not_false_eq_true, one0, true_or, or_true, eq_self, bI_z, bI_nz, bI_o, b_ft, bI_1, bI_0, ↓kC_l, ↓kC_r, Option.toList_some, Option.toList_none, List.cons_append, List.nil_append, s1_0, s1_1i, s1_1r, s1_1w, s1_1n, s1_s, s2_0, s2_1i, s2_1r, s2_1w, s2_1n, s2_s, gI_sI, gI_sR, gI_sL, gI_sD, gR_sI, gR_sR, gR_sL, gR_sD, gL_sI, gL_sR, gL_sL, gL_sD, gD_sI, gD_sR, gD_sL, gD_sD, isK_sI, isK_sR, isK_sL, isK_sD, inL_sI, inL_sR, inL_sL, inL_sD, nx_sI, nx_sR, nx_sL, nx_sD, kd_sI, kd_sR, kd_sL, kd_sD, ln_sI, ln_sR, ln_sL, ln_sD, ↓reduceIte, c8_n, c8_1, c8_2, c8_3, c8_4, Nat.reduceAdd, kl, L1.r, L1.s, Nat.reduceEqDiff, and_false, and_self, hg0]
    rfl
  obtain ⟨g, e1, X, G, rg, sg2, ng, sg⟩ := loopR (fun Q i (g : Hp) => WP Gm j_ArrayList_clear 27 [some (.inr (.inl (some l))), some (.inr (.inl (some a))), some (.inl (ii k)), some (.inl (ii i))] [] g Q)
    (fun _ g => Ext τ h τ g ∧ Ag τ (fun s => s = τ l ∨ s = r) h g ∧ gR g l 1 = some a ∧ gI g l 2 = ii 0 ∧ nx g = nx h ∧ sc g = sc h) k
    (fun i g hi hI => by
      obtain ⟨X, G, rg, sg2, ng, sg⟩ := hI
      obtain ⟨x1, x2, x3⟩ := L1.row (show i < k by omega)
      obtain ⟨x4, x5⟩ := L1.row2 (show i < k by omega)
      have kg : isK g a 106 = true := X.k x1
      have ig : inL g a (ii i) = true := inL_n (by omega) (by rw [X.l x1]; exact x2)
      have hle : (ii k ≤ ii i) = False := lle_f (by omega) hi
      have an : ∀ g : Hp, isAny g none = true := fun _ => rfl
      have hla : ¬ l = a := ne_k kl x1 (by decide)
      have ta : τ a = r := by
        rcases d with w | w
        · exact absurd w.1 x4
        · exact w.1
      refine ⟨sR g a i none, fun Q => ?_, X.trans (Ext.same (fun _ => rfl) (fun _ => rfl) rfl), G.sR (Or.inr ta), by rw [gR_sR, if_neg (fun w => hla w.1)]; exact rg, sg2, ng, sg⟩
      rw [e_ArrayList_clear_27]
      simp only [↓e_ArrayList_clear_0, ↓e_ArrayList_clear_1, ↓e_ArrayList_clear_2, ↓e_ArrayList_clear_5, ↓e_ArrayList_clear_6, ↓e_ArrayList_clear_7, ↓e_ArrayList_clear_10, ↓e_ArrayList_clear_11, ↓e_ArrayList_clear_14, ↓e_ArrayList_clear_15, ↓e_ArrayList_clear_16, ↓e_ArrayList_clear_19, ↓e_ArrayList_clear_20, ↓e_ArrayList_clear_21, ↓e_ArrayList_clear_22, ↓e_ArrayList_clear_23, ↓e_ArrayList_clear_26, ↓e_ArrayList_clear_28, ↓e_ArrayList_clear_29, ↓e_ArrayList_clear_32, ↓e_ArrayList_clear_33, ↓e_ArrayList_clear_34, ↓e_ArrayList_clear_35, ↓e_ArrayList_clear_36, ↓e_ArrayList_clear_39, ↓e_ArrayList_clear_42, not_true_eq_false, not_false_eq_true, one0, true_or, or_true, eq_self, bI_z, bI_nz, bI_o, b_ft, bI_1, bI_0, ↓kC_l, ↓kC_r, Option.toList_some, Option.toList_none, List.cons_append, List.nil_append, s1_0, s1_1i, s1_1r, s1_1w, s1_1n, s1_s, s2_0, s2_1i, s2_1r, s2_1w, s2_1n, s2_s, gI_sI, gI_sR, gI_sL, gI_sD, gR_sI, gR_sR, gR_sL, gR_sD, gL_sI, gL_sR, gL_sL, gL_sD, gD_sI, gD_sR, gD_sL, gD_sD, isK_sI, isK_sR, isK_sL, isK_sD, inL_sI, inL_sR, inL_sL, inL_sD, nx_sI, nx_sR, nx_sL, nx_sD, kd_sI, kd_sR, kd_sL, kd_sD, ln_sI, ln_sR, ln_sL, ln_sD, ↓reduceIte, c8_n, c8_1, c8_2, c8_3, c8_4, Nat.reduceAdd, hle, kg, ig, an, ii_nat (show i < 2147483648 by omega), ii_succ]) k 0 g0 (by omega) ⟨X0, G0, r0, s0, by rw [← hg0]; rfl, by rw [← hg0]; rfl⟩
  refine ⟨g, fun Q => ?_, X, G, ⟨a, ⟨X.k kl, rg, sg2, by omega, ?_⟩, ?_, fun j hj => absurd hj (by omega)⟩, ng, sg⟩
  · rw [pre, e1 Q, e_ArrayList_clear_27]
    simp only [↓e_ArrayList_clear_0, ↓e_ArrayList_clear_1, ↓e_ArrayList_clear_2, ↓e_ArrayList_clear_5, ↓e_ArrayList_clear_6, ↓e_ArrayList_clear_7, ↓e_ArrayList_clear_10, ↓e_ArrayList_clear_11, ↓e_ArrayList_clear_14, ↓e_ArrayList_clear_15, ↓e_ArrayList_clear_16, ↓e_ArrayList_clear_19, ↓e_ArrayList_clear_20, ↓e_ArrayList_clear_21, ↓e_ArrayList_clear_22, ↓e_ArrayList_clear_23, ↓e_ArrayList_clear_26, ↓e_ArrayList_clear_28, ↓e_ArrayList_clear_29, ↓e_ArrayList_clear_32, ↓e_ArrayList_clear_33, ↓e_ArrayList_clear_34, ↓e_ArrayList_clear_35, ↓e_ArrayList_clear_36, ↓e_ArrayList_clear_39, ↓e_ArrayList_clear_42, not_true_eq_false, not_false_eq_true, one0, true_or, or_true, eq_self, bI_z, bI_nz, bI_o, b_ft, bI_1, bI_0, ↓kC_l, ↓kC_r, Option.toList_some, Option.toList_none, List.cons_append, List.nil_append, s1_0, s1_1i, s1_1r, s1_1w, s1_1n, s1_s, s2_0, s2_1i, s2_1r, s2_1w, s2_1n, s2_s, gI_sI, gI_sR, gI_sL, gI_sD, gR_sI, gR_sR, gR_sL, gR_sD, gL_sI, gL_sR, gL_sL, gL_sD, gD_sI, gD_sR, gD_sL, gD_sD, isK_sI, isK_sR, isK_sL, isK_sD, inL_sI, inL_sR, inL_sL, inL_sD, nx_sI, nx_sR, nx_sL, nx_sD, kd_sI, kd_sR, kd_sL, kd_sD, ln_sI, ln_sR, ln_sL, ln_sD, ↓reduceIte, c8_n, c8_1, c8_2, c8_3, c8_4, Nat.reduceAdd, lle_t (show k < 2147483648 by omega)]
  · rcases L1.d with e | ⟨e1, e2, e3, e4, e5⟩
    · exact Or.inl ⟨e.1, rfl⟩
    · exact Or.inr ⟨X.k e1, by omega, e3, e4, by rw [X.l e1]; exact e5⟩
  · rcases d with e | ⟨d1, d2, d3, d4⟩
    · exact Or.inl e
    · rcases L1.d with e | ⟨e1, -⟩
      · exact absurd e.1 d3
      · exact Or.inr ⟨d1, by rw [X.l e1]; exact d2, d3, d4⟩
theorem q_mbid (R : RM τ n p (8 * B) c B K h) (hn1 : nx h + 1000 ≤ 580300) (hs1 : sc h + 7000 ≤ 5700000) (x y z : Int32) :
    ∃ v h', (∀ Q, WP Gm j_Mdl_bid 0 [some (.inr (.inl (some 121))), some (.inl x), some (.inl y), some (.inl z)] [] h Q = Q (.inl (some (.inl v))) h') ∧ Mog SM9 τ n c B K h h' := by
  have F := R.F
  have R0 : RM τ n p (8 * B) c B K (sI h 121 0 0) := R.th
  have ref : ∀ w, Mog SM9 τ n c B K h (sI (sI h 121 0 0) 121 0 w) := fun w => (Mo.sw R (R.sth2 0 w) (by show nx h ≤ _; omega) (by show sc h ≤ _; omega)).m
  cases e1 : (decide (0 ≤ x) && decide (x ≤ 4)) with
  | false =>
    refine ⟨0, sI (sI h 121 0 0) 121 0 1, fun Q => ?_, ref 1⟩
    simp only [↓e_Mdl_bid_0, ↓e_Mdl_bid_1, ↓e_Mdl_bid_2, ↓e_Mdl_bid_3, ↓e_Mdl_bid_4, ↓e_Mdl_bid_7, ↓e_Mdl_bid_10, ↓e_Mdl_bid_11, ↓e_Mdl_bid_12, ↓e_Mdl_bid_14, ↓e_Mdl_bid_17, ↓e_Mdl_bid_20, ↓e_Mdl_bid_21, ↓e_Mdl_bid_22, ↓e_Mdl_bid_25, ↓e_Mdl_bid_28, ↓e_Mdl_bid_31, ↓e_Mdl_bid_32, ↓e_Mdl_bid_35, ↓e_Mdl_bid_36, ↓e_Mdl_bid_37, ↓e_Mdl_bid_40, ↓e_Mdl_bid_43, ↓e_Mdl_bid_44, ↓e_Mdl_bid_45, ↓e_Mdl_bid_48, ↓e_Mdl_bid_51, ↓e_Mdl_bid_53, ↓e_Mdl_bid_56, ↓e_Mdl_bid_57, ↓e_Mdl_bid_60, ↓e_Mdl_bid_61, ↓e_Mdl_bid_62, ↓e_Mdl_bid_65, ↓e_Mdl_bid_68, ↓e_Mdl_bid_69, ↓e_Mdl_bid_70, ↓e_Mdl_bid_71, ↓e_Mdl_bid_74, ↓e_Mdl_bid_75, ↓e_Mdl_bid_77, ↓e_Mdl_bid_78, ↓e_Mdl_bid_79, ↓e_Mdl_bid_80, ↓e_Mdl_bid_81, ↓e_Mdl_bid_82, ↓e_Mdl_bid_83, ↓e_Mdl_bid_84, ↓e_Mdl_bid_85, ↓e_Mdl_bid_86, ↓e_Mdl_bid_87, ↓e_Mdl_bid_88, ↓e_Mdl_bid_89, ↓e_Mdl_bid_92, ↓e_Mdl_bid_93, ↓e_Mdl_bid_94, ↓e_Mdl_bid_97, ↓e_Mdl_bid_100, ↓e_Mdl_bid_101, ↓e_Mdl_bid_102, not_true_eq_false, not_false_eq_true, one0, true_or, or_true, eq_self, bI_z, bI_nz, bI_o, b_ft, bI_1, bI_0, ↓kC_l, ↓kC_r, Option.toList_some, Option.toList_none, List.cons_append, List.nil_append, s1_0, s1_1i, s1_1r, s1_1w, s1_1n, s1_s, s2_0, s2_1i, s2_1r, s2_1w, s2_1n, s2_s, gI_sI, gI_sR, gI_sL, gI_sD, gR_sI, gR_sR, gR_sL, gR_sD, gL_sI, gL_sR, gL_sL, gL_sD, gD_sI, gD_sR, gD_sL, gD_sD, isK_sI, isK_sR, isK_sL, isK_sD, inL_sI, inL_sR, inL_sL, inL_sD, nx_sI, nx_sR, nx_sL, nx_sD, kd_sI, kd_sR, kd_sL, kd_sD, ln_sI, ln_sR, ln_sL, ln_sD, ↓reduceIte, c8_n, c8_1, c8_2, c8_3, c8_4, Nat.reduceAdd, R.k, q_misIn, e1, q_stT _ R]
  | true =>
    cases e2 : (decide (1 ≤ y) && decide (y ≤ 63)) with
    | false =>
      refine ⟨0, sI (sI h 121 0 0) 121 0 1, fun Q => ?_, ref 1⟩
      simp only [↓e_Mdl_bid_0, ↓e_Mdl_bid_1, ↓e_Mdl_bid_2, ↓e_Mdl_bid_3, ↓e_Mdl_bid_4, ↓e_Mdl_bid_7, ↓e_Mdl_bid_10, ↓e_Mdl_bid_11, ↓e_Mdl_bid_12, ↓e_Mdl_bid_14, ↓e_Mdl_bid_17, ↓e_Mdl_bid_20, ↓e_Mdl_bid_21, ↓e_Mdl_bid_22, ↓e_Mdl_bid_25, ↓e_Mdl_bid_28, ↓e_Mdl_bid_31, ↓e_Mdl_bid_32, ↓e_Mdl_bid_35, ↓e_Mdl_bid_36, ↓e_Mdl_bid_37, ↓e_Mdl_bid_40, ↓e_Mdl_bid_43, ↓e_Mdl_bid_44, ↓e_Mdl_bid_45, ↓e_Mdl_bid_48, ↓e_Mdl_bid_51, ↓e_Mdl_bid_53, ↓e_Mdl_bid_56, ↓e_Mdl_bid_57, ↓e_Mdl_bid_60, ↓e_Mdl_bid_61, ↓e_Mdl_bid_62, ↓e_Mdl_bid_65, ↓e_Mdl_bid_68, ↓e_Mdl_bid_69, ↓e_Mdl_bid_70, ↓e_Mdl_bid_71, ↓e_Mdl_bid_74, ↓e_Mdl_bid_75, ↓e_Mdl_bid_77, ↓e_Mdl_bid_78, ↓e_Mdl_bid_79, ↓e_Mdl_bid_80, ↓e_Mdl_bid_81, ↓e_Mdl_bid_82, ↓e_Mdl_bid_83, ↓e_Mdl_bid_84, ↓e_Mdl_bid_85, ↓e_Mdl_bid_86, ↓e_Mdl_bid_87, ↓e_Mdl_bid_88, ↓e_Mdl_bid_89, ↓e_Mdl_bid_92, ↓e_Mdl_bid_93, ↓e_Mdl_bid_94, ↓e_Mdl_bid_97, ↓e_Mdl_bid_100, ↓e_Mdl_bid_101, ↓e_Mdl_bid_102, not_true_eq_false, not_false_eq_true, one0, true_or, or_true, eq_self, bI_z, bI_nz, bI_o, b_ft, bI_1, bI_0, ↓kC_l, ↓kC_r, Option.toList_some, Option.toList_none, List.cons_append, List.nil_append, s1_0, s1_1i, s1_1r, s1_1w, s1_1n, s1_s, s2_0, s2_1i, s2_1r, s2_1w, s2_1n, s2_s, gI_sI, gI_sR, gI_sL, gI_sD, gR_sI, gR_sR, gR_sL, gR_sD, gL_sI, gL_sR, gL_sL, gL_sD, gD_sI, gD_sR, gD_sL, gD_sD, isK_sI, isK_sR, isK_sL, isK_sD, inL_sI, inL_sR, inL_sL, inL_sD, nx_sI, nx_sR, nx_sL, nx_sD, kd_sI, kd_sR, kd_sL, kd_sD, ln_sI, ln_sR, ln_sL, ln_sD, ↓reduceIte, c8_n, c8_1, c8_2, c8_3, c8_4, Nat.reduceAdd, R.k, q_misIn, e1, e2, q_stT _ R]
    | true =>
      cases e3 : (decide (1 ≤ z) && decide (z ≤ 999)) with
      | false =>
        refine ⟨0, sI (sI h 121 0 0) 121 0 1, fun Q => ?_, ref 1⟩
        simp only [↓e_Mdl_bid_0, ↓e_Mdl_bid_1, ↓e_Mdl_bid_2, ↓e_Mdl_bid_3, ↓e_Mdl_bid_4, ↓e_Mdl_bid_7, ↓e_Mdl_bid_10, ↓e_Mdl_bid_11, ↓e_Mdl_bid_12, ↓e_Mdl_bid_14, ↓e_Mdl_bid_17, ↓e_Mdl_bid_20, ↓e_Mdl_bid_21, ↓e_Mdl_bid_22, ↓e_Mdl_bid_25, ↓e_Mdl_bid_28, ↓e_Mdl_bid_31, ↓e_Mdl_bid_32, ↓e_Mdl_bid_35, ↓e_Mdl_bid_36, ↓e_Mdl_bid_37, ↓e_Mdl_bid_40, ↓e_Mdl_bid_43, ↓e_Mdl_bid_44, ↓e_Mdl_bid_45, ↓e_Mdl_bid_48, ↓e_Mdl_bid_51, ↓e_Mdl_bid_53, ↓e_Mdl_bid_56, ↓e_Mdl_bid_57, ↓e_Mdl_bid_60, ↓e_Mdl_bid_61, ↓e_Mdl_bid_62, ↓e_Mdl_bid_65, ↓e_Mdl_bid_68, ↓e_Mdl_bid_69, ↓e_Mdl_bid_70, ↓e_Mdl_bid_71, ↓e_Mdl_bid_74, ↓e_Mdl_bid_75, ↓e_Mdl_bid_77, ↓e_Mdl_bid_78, ↓e_Mdl_bid_79, ↓e_Mdl_bid_80, ↓e_Mdl_bid_81, ↓e_Mdl_bid_82, ↓e_Mdl_bid_83, ↓e_Mdl_bid_84, ↓e_Mdl_bid_85, ↓e_Mdl_bid_86, ↓e_Mdl_bid_87, ↓e_Mdl_bid_88, ↓e_Mdl_bid_89, ↓e_Mdl_bid_92, ↓e_Mdl_bid_93, ↓e_Mdl_bid_94, ↓e_Mdl_bid_97, ↓e_Mdl_bid_100, ↓e_Mdl_bid_101, ↓e_Mdl_bid_102, not_true_eq_false, not_false_eq_true, one0, true_or, or_true, eq_self, bI_z, bI_nz, bI_o, b_ft, bI_1, bI_0, ↓kC_l, ↓kC_r, Option.toList_some, Option.toList_none, List.cons_append, List.nil_append, s1_0, s1_1i, s1_1r, s1_1w, s1_1n, s1_s, s2_0, s2_1i, s2_1r, s2_1w, s2_1n, s2_s, gI_sI, gI_sR, gI_sL, gI_sD, gR_sI, gR_sR, gR_sL, gR_sD, gL_sI, gL_sR, gL_sL, gL_sD, gD_sI, gD_sR, gD_sL, gD_sD, isK_sI, isK_sR, isK_sL, isK_sD, inL_sI, inL_sR, inL_sL, inL_sD, nx_sI, nx_sR, nx_sL, nx_sD, kd_sI, kd_sR, kd_sL, kd_sD, ln_sI, ln_sR, ln_sL, ln_sD, ↓reduceIte, c8_n, c8_1, c8_2, c8_3, c8_4, Nat.reduceAdd, R.k, q_misIn, e1, e2, e3, q_stT _ R]
      | true =>
        obtain ⟨b, b1, hb⟩ := i32_cases (b := 4) (by omega) e1
        generalize hh0 : sI h 121 0 0 = h0 at *
        have z0h : gI h0 121 0 = 0 := by rw [← hh0]; exact th0 h
        have F0 := R0.F
        have n0 : nx h0 = nx h := by rw [← hh0]; rfl
        have s0 : sc h0 = sc h := by rw [← hh0]; rfl
        have Sh : Sw τ h h0 := by rw [← hh0]; exact R.sth 0
        obtain ⟨m, W⟩ := R0.bs
        obtain ⟨m1, w1, w2, w3, w4, w5, w6⟩ := id W
        have ek : (ii m = 10) = (m = 10) := ii_inj (j := 10) (by omega) (by omega)
        by_cases h4 : m = 10
        · have ek4 : (ii m = 10) = True := by rw [ek]; exact eq_true h4
          refine ⟨0, sI h0 121 0 2, fun Q => ?_, ref 2⟩
          simp only [↓e_Mdl_bid_0, ↓e_Mdl_bid_1, ↓e_Mdl_bid_2, ↓e_Mdl_bid_3, ↓e_Mdl_bid_4, ↓e_Mdl_bid_7, ↓e_Mdl_bid_10, ↓e_Mdl_bid_11, ↓e_Mdl_bid_12, ↓e_Mdl_bid_14, ↓e_Mdl_bid_17, ↓e_Mdl_bid_20, ↓e_Mdl_bid_21, ↓e_Mdl_bid_22, ↓e_Mdl_bid_25, ↓e_Mdl_bid_28, ↓e_Mdl_bid_31, ↓e_Mdl_bid_32, ↓e_Mdl_bid_35, ↓e_Mdl_bid_36, ↓e_Mdl_bid_37, ↓e_Mdl_bid_40, ↓e_Mdl_bid_43, ↓e_Mdl_bid_44, ↓e_Mdl_bid_45, ↓e_Mdl_bid_48, ↓e_Mdl_bid_51, ↓e_Mdl_bid_53, ↓e_Mdl_bid_56, ↓e_Mdl_bid_57, ↓e_Mdl_bid_60, ↓e_Mdl_bid_61, ↓e_Mdl_bid_62, ↓e_Mdl_bid_65, ↓e_Mdl_bid_68, ↓e_Mdl_bid_69, ↓e_Mdl_bid_70, ↓e_Mdl_bid_71, ↓e_Mdl_bid_74, ↓e_Mdl_bid_75, ↓e_Mdl_bid_77, ↓e_Mdl_bid_78, ↓e_Mdl_bid_79, ↓e_Mdl_bid_80, ↓e_Mdl_bid_81, ↓e_Mdl_bid_82, ↓e_Mdl_bid_83, ↓e_Mdl_bid_84, ↓e_Mdl_bid_85, ↓e_Mdl_bid_86, ↓e_Mdl_bid_87, ↓e_Mdl_bid_88, ↓e_Mdl_bid_89, ↓e_Mdl_bid_92, ↓e_Mdl_bid_93, ↓e_Mdl_bid_94, ↓e_Mdl_bid_97, ↓e_Mdl_bid_100, ↓e_Mdl_bid_101, ↓e_Mdl_bid_102, not_true_eq_false, not_false_eq_true, one0, true_or, or_true, eq_self, bI_z, bI_nz, bI_o, b_ft, bI_1, bI_0, ↓kC_l, ↓kC_r, Option.toList_some, Option.toList_none, List.cons_append, List.nil_append, s1_0, s1_1i, s1_1r, s1_1w, s1_1n, s1_s, s2_0, s2_1i, s2_1r, s2_1w, s2_1n, s2_s, gI_sI, gI_sR, gI_sL, gI_sD, gR_sI, gR_sR, gR_sL, gR_sD, gL_sI, gL_sR, gL_sL, gL_sD, gD_sI, gD_sR, gD_sL, gD_sD, isK_sI, isK_sR, isK_sL, isK_sD, inL_sI, inL_sR, inL_sL, inL_sD, nx_sI, nx_sR, nx_sL, nx_sD, kd_sI, kd_sR, kd_sL, kd_sD, ln_sI, ln_sR, ln_sL, ln_sD, ↓reduceIte, c8_n, c8_1, c8_2, c8_3, c8_4, Nat.reduceAdd, R.k, q_misIn, e1, e2, e3, q_stF _ R, hh0, w1, w2, w3, w5, ek4, q_rfT _ R0 (show (0 : Int32) < 2 by decide) z0h]
        · have ek4 : (ii m = 10) = False := by rw [ek]; exact eq_false h4
          obtain ⟨z0, z1, z2, z3, z4, z5⟩ := i32n
          obtain ⟨l2, l3, l5⟩ := i32p
          generalize hg0 : hN h0 100 3 3 = g0
          have N0 : Nw τ h0 3 g0 := by rw [← hg0]; exact Nw.new F0 3
          have k0 := N0.2.2.1
          obtain ⟨y0, y1, y2⟩ := rd3 N0.2.2.2.1
          have nz : (nx h0 = 0) = False := eq_false (by have := F0.1; omega)
          generalize hg : sI (sI (sI g0 (nx h0) 0 x) (nx h0) 1 y) (nx h0) 2 z = g
          have N : Nw τ h0 3 g := by rw [← hg]; exact ((N0.sI F0).sI F0).sI F0
          have gv : gI g (nx h0) 0 = ii b := by
            rw [← hg]
            simp only [gI_sI, Nat.reduceEqDiff, and_false, and_self, ↓reduceIte]
            exact hb
          obtain ⟨τ', u, u1, R2, X2, G2, n2, s2⟩ := R0.bidAdd N (show b < 5 by omega) gv (by rw [w4, ek]; exact h4) (by omega) (by omega)
          have hr : okR cM sM h0 1 3 = true := ok_big (by omega) (by omega)
          have Gu : Ag τ SM9 h u := (Sh.s0.mono fun s w => by unfold S0 at w; unfold SM9; omega).trans F Sh.1 (by unfold SM9; omega) (G2.mono fun s w => by unfold SM9; omega)
          have Xu : Ext τ h τ' u := Sh.1.trans X2
          obtain ⟨m2, W2⟩ := R2.bs
          obtain ⟨q1, q2, q3, q4, q5, q6, q7⟩ := id W2
          refine ⟨ii m2 - 1, u, fun Q => ?_, Mo.mk R2 Xu Gu (by omega) (by omega)⟩
          simp only [↓e_Mdl_bid_0, ↓e_Mdl_bid_1, ↓e_Mdl_bid_2, ↓e_Mdl_bid_3, ↓e_Mdl_bid_4, ↓e_Mdl_bid_7, ↓e_Mdl_bid_10, ↓e_Mdl_bid_11, ↓e_Mdl_bid_12, ↓e_Mdl_bid_14, ↓e_Mdl_bid_17, ↓e_Mdl_bid_20, ↓e_Mdl_bid_21, ↓e_Mdl_bid_22, ↓e_Mdl_bid_25, ↓e_Mdl_bid_28, ↓e_Mdl_bid_31, ↓e_Mdl_bid_32, ↓e_Mdl_bid_35, ↓e_Mdl_bid_36, ↓e_Mdl_bid_37, ↓e_Mdl_bid_40, ↓e_Mdl_bid_43, ↓e_Mdl_bid_44, ↓e_Mdl_bid_45, ↓e_Mdl_bid_48, ↓e_Mdl_bid_51, ↓e_Mdl_bid_53, ↓e_Mdl_bid_56, ↓e_Mdl_bid_57, ↓e_Mdl_bid_60, ↓e_Mdl_bid_61, ↓e_Mdl_bid_62, ↓e_Mdl_bid_65, ↓e_Mdl_bid_68, ↓e_Mdl_bid_69, ↓e_Mdl_bid_70, ↓e_Mdl_bid_71, ↓e_Mdl_bid_74, ↓e_Mdl_bid_75, ↓e_Mdl_bid_77, ↓e_Mdl_bid_78, ↓e_Mdl_bid_79, ↓e_Mdl_bid_80, ↓e_Mdl_bid_81, ↓e_Mdl_bid_82, ↓e_Mdl_bid_83, ↓e_Mdl_bid_84, ↓e_Mdl_bid_85, ↓e_Mdl_bid_86, ↓e_Mdl_bid_87, ↓e_Mdl_bid_88, ↓e_Mdl_bid_89, ↓e_Mdl_bid_92, ↓e_Mdl_bid_93, ↓e_Mdl_bid_94, ↓e_Mdl_bid_97, ↓e_Mdl_bid_100, ↓e_Mdl_bid_101, ↓e_Mdl_bid_102, not_true_eq_false, not_false_eq_true, one0, true_or, or_true, eq_self, bI_z, bI_nz, bI_o, b_ft, bI_1, bI_0, ↓kC_l, ↓kC_r, Option.toList_some, Option.toList_none, List.cons_append, List.nil_append, s1_0, s1_1i, s1_1r, s1_1w, s1_1n, s1_s, s2_0, s2_1i, s2_1r, s2_1w, s2_1n, s2_s, gI_sI, gI_sR, gI_sL, gI_sD, gR_sI, gR_sR, gR_sL, gR_sD, gL_sI, gL_sR, gL_sL, gL_sD, gD_sI, gD_sR, gD_sL, gD_sD, isK_sI, isK_sR, isK_sL, isK_sD, inL_sI, inL_sR, inL_sL, inL_sD, nx_sI, nx_sR, nx_sL, nx_sD, kd_sI, kd_sR, kd_sL, kd_sD, ln_sI, ln_sR, ln_sL, ln_sD, ↓reduceIte, c8_n, c8_1, c8_2, c8_3, c8_4, Nat.reduceAdd, R.k, q_misIn, e1, e2, e3, q_stF _ R, hh0, w1, w2, w3, w5, ek4, q_rfF _ R0 _ z0h, z0, z1, z2, z3, l3, Nat.reduceLeDiff, and_self, hr, hg0, k0, y0, y1, y2, nz, hg, N.2.2.2.2.1.k w3, u1, q2, q3, q4, q6]
theorem q_mauction (R : RM τ n p (8 * B) c B K h) (hn1 : nx h + 1000 ≤ 580300) (hs1 : sc h + 7000 ≤ 5700000) (x : Int32) :
    ∃ v h', (∀ Q, WP Gm j_Mdl_auction 0 [some (.inr (.inl (some 121))), some (.inl x)] [] h Q = Q (.inl (some (.inl v))) h') ∧ Mo τ n c B K h h' := by
  have R0 : RM τ n p (8 * B) c B K (sI h 121 0 0) := R.th
  cases e1 : (decide (0 ≤ x) && decide (x ≤ 6)) with
  | false =>
    refine ⟨0, sI (sI h 121 0 0) 121 0 1, fun Q => ?_, Mo.sw R (R.sth2 0 1) (by show nx h ≤ _; omega) (by show sc h ≤ _; omega)⟩
    simp only [↓e_Mdl_auction_0, ↓e_Mdl_auction_1, ↓e_Mdl_auction_2, ↓e_Mdl_auction_3, ↓e_Mdl_auction_5, ↓e_Mdl_auction_8, ↓e_Mdl_auction_11, ↓e_Mdl_auction_12, ↓e_Mdl_auction_15, ↓e_Mdl_auction_16, ↓e_Mdl_auction_17, ↓e_Mdl_auction_20, ↓e_Mdl_auction_23, ↓e_Mdl_auction_24, ↓e_Mdl_auction_27, ↓e_Mdl_auction_28, ↓e_Mdl_auction_31, ↓e_Mdl_auction_32, ↓e_Mdl_auction_33, not_true_eq_false, not_false_eq_true, one0, true_or, or_true, eq_self, bI_z, bI_nz, bI_o, b_ft, bI_1, bI_0, ↓kC_l, ↓kC_r, Option.toList_some, Option.toList_none, List.cons_append, List.nil_append, s1_0, s1_1i, s1_1r, s1_1w, s1_1n, s1_s, s2_0, s2_1i, s2_1r, s2_1w, s2_1n, s2_s, gI_sI, gI_sR, gI_sL, gI_sD, gR_sI, gR_sR, gR_sL, gR_sD, gL_sI, gL_sR, gL_sL, gL_sD, gD_sI, gD_sR, gD_sL, gD_sD, isK_sI, isK_sR, isK_sL, isK_sD, inL_sI, inL_sR, inL_sL, inL_sD, nx_sI, nx_sR, nx_sL, nx_sD, kd_sI, kd_sR, kd_sL, kd_sD, ln_sI, ln_sR, ln_sL, ln_sD, ↓reduceIte, c8_n, c8_1, c8_2, c8_3, c8_4, Nat.reduceAdd, R.k, q_misIn, e1, q_stT _ R]
  | true =>
    obtain ⟨b, b1, rfl⟩ := i32_cases (b := 6) (by omega) e1
    obtain ⟨g, g1, N⟩ := q_aucNow R0 (by show nx h + 10 ≤ _; omega) (by show sc h + 10 ≤ _; omega)
    have ib : inL g (nx h) (ii b) = true := N.in (show b < 7 by omega) (by omega)
    have kg : isK g (nx h) 100 = true := N.2.2.1
    have sw : Sw τ h g := (R.sth 0).trans N.2.2.2.2.sw
    have n1 : nx g = nx h + 1 := N.1
    have s1 : sc g = sc h + 7 := N.2.1
    refine ⟨gI g (nx h) b, g, fun Q => ?_, Mo.sw R sw (by omega) (by omega)⟩
    simp only [↓e_Mdl_auction_0, ↓e_Mdl_auction_1, ↓e_Mdl_auction_2, ↓e_Mdl_auction_3, ↓e_Mdl_auction_5, ↓e_Mdl_auction_8, ↓e_Mdl_auction_11, ↓e_Mdl_auction_12, ↓e_Mdl_auction_15, ↓e_Mdl_auction_16, ↓e_Mdl_auction_17, ↓e_Mdl_auction_20, ↓e_Mdl_auction_23, ↓e_Mdl_auction_24, ↓e_Mdl_auction_27, ↓e_Mdl_auction_28, ↓e_Mdl_auction_31, ↓e_Mdl_auction_32, ↓e_Mdl_auction_33, not_true_eq_false, not_false_eq_true, one0, true_or, or_true, eq_self, bI_z, bI_nz, bI_o, b_ft, bI_1, bI_0, ↓kC_l, ↓kC_r, Option.toList_some, Option.toList_none, List.cons_append, List.nil_append, s1_0, s1_1i, s1_1r, s1_1w, s1_1n, s1_s, s2_0, s2_1i, s2_1r, s2_1w, s2_1n, s2_s, gI_sI, gI_sR, gI_sL, gI_sD, gR_sI, gR_sR, gR_sL, gR_sD, gL_sI, gL_sR, gL_sL, gL_sD, gD_sI, gD_sR, gD_sL, gD_sD, isK_sI, isK_sR, isK_sL, isK_sD, inL_sI, inL_sR, inL_sL, inL_sD, nx_sI, nx_sR, nx_sL, nx_sD, kd_sI, kd_sR, kd_sL, kd_sD, ln_sI, ln_sR, ln_sL, ln_sD, ↓reduceIte, c8_n, c8_1, c8_2, c8_3, c8_4, Nat.reduceAdd, R.k, q_misIn, e1, q_stF _ R, R0.k, g1, kg, ib, ii_nat (show b < 2147483648 by omega)]
theorem q_msell (R : RM τ n p (8 * B) c B K h) (hn1 : nx h + 1000 ≤ 580300) (hs1 : sc h + 7000 ≤ 5700000) :
    ∃ v h', (∀ Q, WP Gm j_Mdl_sell 0 [some (.inr (.inl (some 121))), none, none, none] [] h Q = Q (.inl (some (.inl v))) h') ∧ Mog SM9 τ n c B K h h' := by
  have F := R.F
  have R0 : RM τ n p (8 * B) c B K (sI h 121 0 0) := R.th
  obtain ⟨g, g1, N⟩ := q_aucNow R0 (by show nx h + 10 ≤ _; omega) (by show sc h + 10 ≤ _; omega)
  have g1' : ∀ Q, WP Gm j_Mdl_auctionNow 0 [some (.inr (.inl (some 121))), none, none, none] [] (sI h 121 0 0) Q = Q (.inl (some (.inr (.inl (some (nx h)))))) g := g1
  have sw : Sw τ h g := (R.sth 0).trans N.2.2.2.2.sw
  have Rg := R.sw sw
  have kg : isK g (nx h) 100 = true := N.2.2.1
  have n1 : nx g = nx h + 1 := N.1
  have s1 : sc g = sc h + 7 := N.2.1
  have step := fun Q => loop0 (fun k (a : Int32) => WP Gm j_Mdl_sell 14 [some (.inr (.inl (some 121))), some (.inr (.inl (some (nx h)))), some (.inl a), some (.inl (ii k))] [] g Q) (fun k a => a + gI g (nx h) (2 + k)) 5
    (fun k a hk => by
      have hle : ((5 : Int32) ≤ ii k) = False := lle_f (n := 5) (by omega) hk
      have e2 : (2 : Int32) + ii k = ii (2 + k) := ii_add 2 k
      have ik : inL g (nx h) (ii (2 + k)) = true := N.in (show 2 + k < 7 by omega) (by omega)
      rw [e_Mdl_sell_14]
      simp only [↓e_Mdl_sell_0, ↓e_Mdl_sell_1, ↓e_Mdl_sell_2, ↓e_Mdl_sell_5, ↓e_Mdl_sell_6, ↓e_Mdl_sell_9, ↓e_Mdl_sell_10, ↓e_Mdl_sell_11, ↓e_Mdl_sell_12, ↓e_Mdl_sell_13, ↓e_Mdl_sell_15, ↓e_Mdl_sell_16, ↓e_Mdl_sell_19, ↓e_Mdl_sell_20, ↓e_Mdl_sell_21, ↓e_Mdl_sell_22, ↓e_Mdl_sell_23, ↓e_Mdl_sell_24, ↓e_Mdl_sell_25, ↓e_Mdl_sell_26, ↓e_Mdl_sell_27, ↓e_Mdl_sell_30, ↓e_Mdl_sell_33, ↓e_Mdl_sell_34, ↓e_Mdl_sell_35, ↓e_Mdl_sell_38, ↓e_Mdl_sell_39, ↓e_Mdl_sell_40, ↓e_Mdl_sell_43, ↓e_Mdl_sell_44, ↓e_Mdl_sell_47, ↓e_Mdl_sell_50, ↓e_Mdl_sell_51, not_true_eq_false, not_false_eq_true, one0, true_or, or_true, eq_self, bI_z, bI_nz, bI_o, b_ft, bI_1, bI_0, ↓kC_l, ↓kC_r, Option.toList_some, Option.toList_none, List.cons_append, List.nil_append, s1_0, s1_1i, s1_1r, s1_1w, s1_1n, s1_s, s2_0, s2_1i, s2_1r, s2_1w, s2_1n, s2_s, gI_sI, gI_sR, gI_sL, gI_sD, gR_sI, gR_sR, gR_sL, gR_sD, gL_sI, gL_sR, gL_sL, gL_sD, gD_sI, gD_sR, gD_sL, gD_sD, isK_sI, isK_sR, isK_sL, isK_sD, inL_sI, inL_sR, inL_sL, inL_sD, nx_sI, nx_sR, nx_sL, nx_sD, kd_sI, kd_sR, kd_sL, kd_sD, ln_sI, ln_sR, ln_sL, ln_sD, ↓reduceIte, c8_n, c8_1, c8_2, c8_3, c8_4, Nat.reduceAdd, hle, e2, kg, ik, ii_nat (show 2 + k < 2147483648 by omega), ii_succ]) 5 0 0 (by omega)
  generalize hS : upto (fun k a => a + gI g (nx h) (2 + k)) 5 0 0 = S at step
  generalize hu : sI g 121 7 (gI g 121 7 + S) = u
  have Su : Sw τ h u := by rw [← hu]; exact sw.sI (by rw [R.t1]; unfold OW; omega)
  have Ru := R.sw Su
  have nu : nx u = nx h + 1 := by rw [← hu]; exact n1
  have su : sc u = sc h + 7 := by rw [← hu]; exact s1
  obtain ⟨k, c0, k1, c1, L⟩ := Ru.bl
  obtain ⟨w, w1, X, G, L', nw, sw'⟩ := q_zclear L
  have G' : Ag τ (fun s => s = 1 ∨ s = 5 ∨ s = 8) u w := G.mono fun s q => by rw [R.t4] at q; omega
  have Fw : Fs τ w := Ru.F.same X.2
  have Rw : RM τ n p (8 * B) c B K w := Ru.bids Fw X G' (fun f hf => by rw [Ru.F.j hf]; omega) (fun f hf => by rw [Ru.F.j hf]; omega) (fun f hf q => by rw [Ru.F.j hf] at q; omega) ⟨0, c0, by omega, c1, L'⟩
  refine ⟨S, w, fun Q => ?_, Mo.mk (S := SM9) Rw (Su.1.trans X) ((Su.s0.mono fun s w => by unfold S0 at w; unfold SM9; omega).trans F Su.1 (by unfold SM9; omega) (G'.mono fun s q => by unfold SM9; omega)) (by omega) (by omega)⟩
  have pre : WP Gm j_Mdl_sell 0 [some (.inr (.inl (some 121))), none, none, none] [] h Q = WP Gm j_Mdl_sell 14 [some (.inr (.inl (some 121))), some (.inr (.inl (some (nx h)))), some (.inl 0), some (.inl (ii 0))] [] g Q := by
    simp only [↓e_Mdl_sell_0, ↓e_Mdl_sell_1, ↓e_Mdl_sell_2, ↓e_Mdl_sell_5, ↓e_Mdl_sell_6, ↓e_Mdl_sell_9, ↓e_Mdl_sell_10, ↓e_Mdl_sell_11, ↓e_Mdl_sell_12, ↓e_Mdl_sell_13, ↓e_Mdl_sell_15, ↓e_Mdl_sell_16, ↓e_Mdl_sell_19, ↓e_Mdl_sell_20, ↓e_Mdl_sell_21, ↓e_Mdl_sell_22, ↓e_Mdl_sell_23, ↓e_Mdl_sell_24, ↓e_Mdl_sell_25, ↓e_Mdl_sell_26, ↓e_Mdl_sell_27, ↓e_Mdl_sell_30, ↓e_Mdl_sell_33, ↓e_Mdl_sell_34, ↓e_Mdl_sell_35, ↓e_Mdl_sell_38, ↓e_Mdl_sell_39, ↓e_Mdl_sell_40, ↓e_Mdl_sell_43, ↓e_Mdl_sell_44, ↓e_Mdl_sell_47, ↓e_Mdl_sell_50, ↓e_Mdl_sell_51, not_true_eq_false, not_false_eq_true, one0, true_or, or_true, eq_self, bI_z, bI_nz, bI_o, b_ft, bI_1, bI_0, ↓kC_l, ↓kC_r, Option.toList_some, Option.toList_none, List.cons_append, List.nil_append, s1_0, s1_1i, s1_1r, s1_1w, s1_1n, s1_s, s2_0, s2_1i, s2_1r, s2_1w, s2_1n, s2_s, gI_sI, gI_sR, gI_sL, gI_sD, gR_sI, gR_sR, gR_sL, gR_sD, gL_sI, gL_sR, gL_sL, gL_sD, gD_sI, gD_sR, gD_sL, gD_sD, isK_sI, isK_sR, isK_sL, isK_sD, inL_sI, inL_sR, inL_sL, inL_sD, nx_sI, nx_sR, nx_sL, nx_sD, kd_sI, kd_sR, kd_sL, kd_sD, ln_sI, ln_sR, ln_sL, ln_sD, ↓reduceIte, c8_n, c8_1, c8_2, c8_3, c8_4, Nat.reduceAdd, R.k, R0.k, g1']
    rfl
  rw [pre, step Q, e_Mdl_sell_14]
  simp only [↓e_Mdl_sell_0, ↓e_Mdl_sell_1, ↓e_Mdl_sell_2, ↓e_Mdl_sell_5, ↓e_Mdl_sell_6, ↓e_Mdl_sell_9, ↓e_Mdl_sell_10, ↓e_Mdl_sell_11, ↓e_Mdl_sell_12, ↓e_Mdl_sell_13, ↓e_Mdl_sell_15, ↓e_Mdl_sell_16, ↓e_Mdl_sell_19, ↓e_Mdl_sell_20, ↓e_Mdl_sell_21, ↓e_Mdl_sell_22, ↓e_Mdl_sell_23, ↓e_Mdl_sell_24, ↓e_Mdl_sell_25, ↓e_Mdl_sell_26, ↓e_Mdl_sell_27, ↓e_Mdl_sell_30, ↓e_Mdl_sell_33, ↓e_Mdl_sell_34, ↓e_Mdl_sell_35, ↓e_Mdl_sell_38, ↓e_Mdl_sell_39, ↓e_Mdl_sell_40, ↓e_Mdl_sell_43, ↓e_Mdl_sell_44, ↓e_Mdl_sell_47, ↓e_Mdl_sell_50, ↓e_Mdl_sell_51, not_true_eq_false, not_false_eq_true, one0, true_or, or_true, eq_self, bI_z, bI_nz, bI_o, b_ft, bI_1, bI_0, ↓kC_l, ↓kC_r, Option.toList_some, Option.toList_none, List.cons_append, List.nil_append, s1_0, s1_1i, s1_1r, s1_1w, s1_1n, s1_s, s2_0, s2_1i, s2_1r, s2_1w, s2_1n, s2_s, gI_sI, gI_sR, gI_sL, gI_sD, gR_sI, gR_sR, gR_sL, gR_sD, gL_sI, gL_sR, gL_sL, gL_sD, gD_sI, gD_sR, gD_sL, gD_sD, isK_sI, isK_sR, isK_sL, isK_sD, inL_sI, inL_sR, inL_sL, inL_sD, nx_sI, nx_sR, nx_sL, nx_sD, kd_sI, kd_sR, kd_sL, kd_sD, ln_sI, ln_sR, ln_sL, ln_sD, ↓reduceIte, c8_n, c8_1, c8_2, c8_3, c8_4, Nat.reduceAdd, (show ((5 : Int32) ≤ ii 5) = True from eq_true (by decide)), Rg.k, hu, Ru.k, Ru.r11, Ru.k124, w1, Nat.reduceEqDiff, and_false, and_self]
theorem q_mrouted (R : RM τ n p A c B K h) (hn1 : nx h + 1 ≤ 580300) (hs1 : sc h + 4 ≤ 5700000) : ∃ v h', (∀ Q, WP Gm j_Mdl_routed 0 [some (.inr (.inl (some 121))), none, none, none, none, none, none, none] [] h Q = Q (.inl (some (.inl v))) h') ∧ Jk τ h h' ∧ nx h' = nx h + 1 ∧ sc h' = sc h + 4 := by
  have F := R.F
  have hn := R.n8
  obtain ⟨c0, -, L⟩ := R.nl
  have hl : ∀ j, ¬ OW (τ 122) j := fun j => by rw [R.t2]; unfold OW; omega
  have hl1 : ¬ τ 122 = 1 := by rw [R.t2]; omega
  obtain ⟨h1, i1, i2, i3, i4, i5⟩ := q_ziter F L hl1 hn1 hs1
  have tq : τ (nx h) = 1 := F.j (Nat.le_refl _)
  obtain ⟨⟨s, g, v3, v4, v5, v6, v7⟩, e1, J, I, ng, sg⟩ := loopR (fun Q k (x : Int32 × Hp × Option MV × Option MV × Option MV × Option MV × Option MV) => WP Gm j_Mdl_routed 10 [some (.inr (.inl (some 121))), some (.inl x.1), some (.inr (.inl (some (nx h)))), x.2.2.1, x.2.2.2.1, x.2.2.2.2.1, x.2.2.2.2.2.1, x.2.2.2.2.2.2] [] x.2.1 Q)
    (fun k x => Jk τ h x.2.1 ∧ It x.2.1 (nx h) 122 k ∧ nx x.2.1 = nx h + 1 ∧ sc x.2.1 = sc h + 4) n
    (fun k x hk hI => by
      obtain ⟨s, g, v3, v4, v5, v6, v7⟩ := x
      dsimp only at hI ⊢
      obtain ⟨J, I, ng, sg⟩ := hI
      have Lg := L.sw J.sw hl (by omega)
      obtain ⟨f, g', f1, f2, f3, f4, f5, f6, f7, f8⟩ := q_znext Lg I hk tq
      have Rg' := R.sw (J.trans f5).sw
      subst f3
      obtain ⟨N1, -⟩ := Rg'.nd hk
      have k3 := I.1
      have kr := N1.2.2.2.2.1
      have lr := N1.2.2.2.2.2
      obtain ⟨⟨t, w7⟩, e2, -⟩ := loopR (fun Q j (x : Int32 × Option MV) => WP Gm j_Mdl_routed 43 [some (.inr (.inl (some 121))), some (.inl x.1), some (.inr (.inl (some (nx h)))), some (.inr (.inl (some (p k)))), some (.inr (.inl (some (p k + 3)))), some (.inl (ii 8)), some (.inl (ii j)), x.2] [] g' Q) (fun _ _ => True) 8
        (fun j x hj _ => by
          obtain ⟨t, w7⟩ := x
          have ij : inL g' (p k + 3) (ii j) = true := inL_n (by omega) (by omega)
          by_cases e : gI g' (p k + 3) j = -1
          · refine ⟨(t + bI false, some (.inl (gI g' (p k + 3) j))), fun Q => ?_, trivial⟩
            dsimp only
            rw [e_Mdl_routed_43]
            have o0 : ∀ (Q2 : MRes → Hp → Prop), WP Gm j_Mdl_one 0 [some (.inl 0)] [] g' Q2 = Q2 (.inl (some (.inl (bI false)))) g' := fun Q2 => q_mone Q2 false
            simp only [↓e_Mdl_routed_0, ↓e_Mdl_routed_1, ↓e_Mdl_routed_2, ↓e_Mdl_routed_3, ↓e_Mdl_routed_6, ↓e_Mdl_routed_9, ↓e_Mdl_routed_11, ↓e_Mdl_routed_16, ↓e_Mdl_routed_19, ↓e_Mdl_routed_20, ↓e_Mdl_routed_25, ↓e_Mdl_routed_28, ↓e_Mdl_routed_29, ↓e_Mdl_routed_30, ↓e_Mdl_routed_33, ↓e_Mdl_routed_35, ↓e_Mdl_routed_37, ↓e_Mdl_routed_38, ↓e_Mdl_routed_40, ↓e_Mdl_routed_41, ↓e_Mdl_routed_45, ↓e_Mdl_routed_47, ↓e_Mdl_routed_50, ↓e_Mdl_routed_52, ↓e_Mdl_routed_54, ↓e_Mdl_routed_55, ↓e_Mdl_routed_57, ↓e_Mdl_routed_58, ↓e_Mdl_routed_60, ↓e_Mdl_routed_61, ↓e_Mdl_routed_64, ↓e_Mdl_routed_65, ↓e_Mdl_routed_68, ↓e_Mdl_routed_69, ↓e_Mdl_routed_72, ↓e_Mdl_routed_73, ↓e_Mdl_routed_74, ↓e_Mdl_routed_77, ↓e_Mdl_routed_80, ↓e_Mdl_routed_83, ↓e_Mdl_routed_84, not_true_eq_false, not_false_eq_true, one0, true_or, or_true, eq_self, bI_z, bI_nz, bI_o, b_ft, bI_1, bI_0, ↓kC_l, ↓kC_r, Option.toList_some, Option.toList_none, List.cons_append, List.nil_append, s1_0, s1_1i, s1_1r, s1_1w, s1_1n, s1_s, s2_0, s2_1i, s2_1r, s2_1w, s2_1n, s2_s, gI_sI, gI_sR, gI_sL, gI_sD, gR_sI, gR_sR, gR_sL, gR_sD, gL_sI, gL_sR, gL_sL, gL_sD, gD_sI, gD_sR, gD_sL, gD_sD, isK_sI, isK_sR, isK_sL, isK_sD, inL_sI, inL_sR, inL_sL, inL_sD, nx_sI, nx_sR, nx_sL, nx_sD, kd_sI, kd_sR, kd_sL, kd_sD, ln_sI, ln_sR, ln_sL, ln_sD, ↓reduceIte, c8_n, c8_1, c8_2, c8_3, c8_4, Nat.reduceAdd, lle_f (show 8 < 2147483648 by omega) hj, kr, ij, ii_nat (show j < 2147483648 by omega), e, o0, ii_succ]
          · refine ⟨(t + bI true, some (.inl (gI g' (p k + 3) j))), fun Q => ?_, trivial⟩
            dsimp only
            rw [e_Mdl_routed_43]
            have o1 : ∀ (Q2 : MRes → Hp → Prop), WP Gm j_Mdl_one 0 [some (.inl 1)] [] g' Q2 = Q2 (.inl (some (.inl (bI true)))) g' := fun Q2 => q_mone Q2 true
            simp only [↓e_Mdl_routed_0, ↓e_Mdl_routed_1, ↓e_Mdl_routed_2, ↓e_Mdl_routed_3, ↓e_Mdl_routed_6, ↓e_Mdl_routed_9, ↓e_Mdl_routed_11, ↓e_Mdl_routed_16, ↓e_Mdl_routed_19, ↓e_Mdl_routed_20, ↓e_Mdl_routed_25, ↓e_Mdl_routed_28, ↓e_Mdl_routed_29, ↓e_Mdl_routed_30, ↓e_Mdl_routed_33, ↓e_Mdl_routed_35, ↓e_Mdl_routed_37, ↓e_Mdl_routed_38, ↓e_Mdl_routed_40, ↓e_Mdl_routed_41, ↓e_Mdl_routed_45, ↓e_Mdl_routed_47, ↓e_Mdl_routed_50, ↓e_Mdl_routed_52, ↓e_Mdl_routed_54, ↓e_Mdl_routed_55, ↓e_Mdl_routed_57, ↓e_Mdl_routed_58, ↓e_Mdl_routed_60, ↓e_Mdl_routed_61, ↓e_Mdl_routed_64, ↓e_Mdl_routed_65, ↓e_Mdl_routed_68, ↓e_Mdl_routed_69, ↓e_Mdl_routed_72, ↓e_Mdl_routed_73, ↓e_Mdl_routed_74, ↓e_Mdl_routed_77, ↓e_Mdl_routed_80, ↓e_Mdl_routed_83, ↓e_Mdl_routed_84, not_true_eq_false, not_false_eq_true, one0, true_or, or_true, eq_self, bI_z, bI_nz, bI_o, b_ft, bI_1, bI_0, ↓kC_l, ↓kC_r, Option.toList_some, Option.toList_none, List.cons_append, List.nil_append, s1_0, s1_1i, s1_1r, s1_1w, s1_1n, s1_s, s2_0, s2_1i, s2_1r, s2_1w, s2_1n, s2_s, gI_sI, gI_sR, gI_sL, gI_sD, gR_sI, gR_sR, gR_sL, gR_sD, gL_sI, gL_sR, gL_sL, gL_sD, gD_sI, gD_sR, gD_sL, gD_sD, isK_sI, isK_sR, isK_sL, isK_sD, inL_sI, inL_sR, inL_sL, inL_sD, nx_sI, nx_sR, nx_sL, nx_sD, kd_sI, kd_sR, kd_sL, kd_sD, ln_sI, ln_sR, ln_sL, ln_sD, ↓reduceIte, c8_n, c8_1, c8_2, c8_3, c8_4, Nat.reduceAdd, lle_f (show 8 < 2147483648 by omega) hj, kr, ij, ii_nat (show j < 2147483648 by omega), e, o1, ii_succ]) 8 0 (s, v7) (by omega) trivial
      dsimp only at e2
      refine ⟨(t, g', some (.inr (.inl (some (p k)))), some (.inr (.inl (some (p k + 3)))), some (.inl (ii 8)), some (.inl (ii 8)), w7), fun Q => ?_, J.trans f5, f6, by dsimp only; omega, by dsimp only; omega⟩
      dsimp only
      have pre : WP Gm j_Mdl_routed 10 [some (.inr (.inl (some 121))), some (.inl s), some (.inr (.inl (some (nx h)))), v3, v4, v5, v6, v7] [] g Q = WP Gm j_Mdl_routed 43 [some (.inr (.inl (some 121))), some (.inl s), some (.inr (.inl (some (nx h)))), some (.inr (.inl (some (p k)))), some (.inr (.inl (some (p k + 3)))), some (.inl (ii 8)), some (.inl (ii 0)), v7] [] g' Q := by
        rw [e_Mdl_routed_10]
        simp only [↓e_Mdl_routed_0, ↓e_Mdl_routed_1, ↓e_Mdl_routed_2, ↓e_Mdl_routed_3, ↓e_Mdl_routed_6, ↓e_Mdl_routed_9, ↓e_Mdl_routed_11, ↓e_Mdl_routed_16, ↓e_Mdl_routed_19, ↓e_Mdl_routed_20, ↓e_Mdl_routed_25, ↓e_Mdl_routed_28, ↓e_Mdl_routed_29, ↓e_Mdl_routed_30, ↓e_Mdl_routed_33, ↓e_Mdl_routed_35, ↓e_Mdl_routed_37, ↓e_Mdl_routed_38, ↓e_Mdl_routed_40, ↓e_Mdl_routed_41, ↓e_Mdl_routed_45, ↓e_Mdl_routed_47, ↓e_Mdl_routed_50, ↓e_Mdl_routed_52, ↓e_Mdl_routed_54, ↓e_Mdl_routed_55, ↓e_Mdl_routed_57, ↓e_Mdl_routed_58, ↓e_Mdl_routed_60, ↓e_Mdl_routed_61, ↓e_Mdl_routed_64, ↓e_Mdl_routed_65, ↓e_Mdl_routed_68, ↓e_Mdl_routed_69, ↓e_Mdl_routed_72, ↓e_Mdl_routed_73, ↓e_Mdl_routed_74, ↓e_Mdl_routed_77, ↓e_Mdl_routed_80, ↓e_Mdl_routed_83, ↓e_Mdl_routed_84, not_true_eq_false, not_false_eq_true, one0, true_or, or_true, eq_self, bI_z, bI_nz, bI_o, b_ft, bI_1, bI_0, ↓kC_l, ↓kC_r, Option.toList_some, Option.toList_none, List.cons_append, List.nil_append, s1_0, s1_1i, s1_1r, s1_1w, s1_1n, s1_s, s2_0, s2_1i, s2_1r, s2_1w, s2_1n, s2_s, gI_sI, gI_sR, gI_sL, gI_sD, gR_sI, gR_sR, gR_sL, gR_sD, gL_sI, gL_sR, gL_sL, gL_sD, gD_sI, gD_sR, gD_sL, gD_sD, isK_sI, isK_sR, isK_sL, isK_sD, inL_sI, inL_sR, inL_sL, inL_sD, nx_sI, nx_sR, nx_sL, nx_sD, kd_sI, kd_sR, kd_sL, kd_sD, ln_sI, ln_sR, ln_sL, ln_sD, ↓reduceIte, c8_n, c8_1, c8_2, c8_3, c8_4, Nat.reduceAdd, k3, q_zhas _ Lg I (show k ≤ n by omega), hk, decide_true, f4, Rg'.nk hk, Rg'.nz hk, N1.2.2.1.2.2, kr, lr, ofN]
        rfl
      rw [pre, e2 Q, e_Mdl_routed_43]
      simp only [↓e_Mdl_routed_0, ↓e_Mdl_routed_1, ↓e_Mdl_routed_2, ↓e_Mdl_routed_3, ↓e_Mdl_routed_6, ↓e_Mdl_routed_9, ↓e_Mdl_routed_11, ↓e_Mdl_routed_16, ↓e_Mdl_routed_19, ↓e_Mdl_routed_20, ↓e_Mdl_routed_25, ↓e_Mdl_routed_28, ↓e_Mdl_routed_29, ↓e_Mdl_routed_30, ↓e_Mdl_routed_33, ↓e_Mdl_routed_35, ↓e_Mdl_routed_37, ↓e_Mdl_routed_38, ↓e_Mdl_routed_40, ↓e_Mdl_routed_41, ↓e_Mdl_routed_45, ↓e_Mdl_routed_47, ↓e_Mdl_routed_50, ↓e_Mdl_routed_52, ↓e_Mdl_routed_54, ↓e_Mdl_routed_55, ↓e_Mdl_routed_57, ↓e_Mdl_routed_58, ↓e_Mdl_routed_60, ↓e_Mdl_routed_61, ↓e_Mdl_routed_64, ↓e_Mdl_routed_65, ↓e_Mdl_routed_68, ↓e_Mdl_routed_69, ↓e_Mdl_routed_72, ↓e_Mdl_routed_73, ↓e_Mdl_routed_74, ↓e_Mdl_routed_77, ↓e_Mdl_routed_80, ↓e_Mdl_routed_83, ↓e_Mdl_routed_84, not_true_eq_false, not_false_eq_true, one0, true_or, or_true, eq_self, bI_z, bI_nz, bI_o, b_ft, bI_1, bI_0, ↓kC_l, ↓kC_r, Option.toList_some, Option.toList_none, List.cons_append, List.nil_append, s1_0, s1_1i, s1_1r, s1_1w, s1_1n, s1_s, s2_0, s2_1i, s2_1r, s2_1w, s2_1n, s2_s, gI_sI, gI_sR, gI_sL, gI_sD, gR_sI, gR_sR, gR_sL, gR_sD, gL_sI, gL_sR, gL_sL, gL_sD, gD_sI, gD_sR, gD_sL, gD_sD, isK_sI, isK_sR, isK_sL, isK_sD, inL_sI, inL_sR, inL_sL, inL_sD, nx_sI, nx_sR, nx_sL, nx_sD, kd_sI, kd_sR, kd_sL, kd_sD, ln_sI, ln_sR, ln_sL, ln_sD, ↓reduceIte, c8_n, c8_1, c8_2, c8_3, c8_4, Nat.reduceAdd, lle_t (show 8 < 2147483648 by omega)]) n 0 (0, h1, none, none, none, none, none) (by omega) ⟨i2, i3, i4, i5⟩
  dsimp only at e1 J I ng sg
  have Lg := L.sw J.sw hl (by omega)
  refine ⟨s, g, fun Q => ?_, J, ng, sg⟩
  have pre : WP Gm j_Mdl_routed 0 [some (.inr (.inl (some 121))), none, none, none, none, none, none, none] [] h Q = WP Gm j_Mdl_routed 10 [some (.inr (.inl (some 121))), some (.inl 0), some (.inr (.inl (some (nx h)))), none, none, none, none, none] [] h1 Q := by
    simp only [↓e_Mdl_routed_0, ↓e_Mdl_routed_1, ↓e_Mdl_routed_2, ↓e_Mdl_routed_3, ↓e_Mdl_routed_6, ↓e_Mdl_routed_9, ↓e_Mdl_routed_11, ↓e_Mdl_routed_16, ↓e_Mdl_routed_19, ↓e_Mdl_routed_20, ↓e_Mdl_routed_25, ↓e_Mdl_routed_28, ↓e_Mdl_routed_29, ↓e_Mdl_routed_30, ↓e_Mdl_routed_33, ↓e_Mdl_routed_35, ↓e_Mdl_routed_37, ↓e_Mdl_routed_38, ↓e_Mdl_routed_40, ↓e_Mdl_routed_41, ↓e_Mdl_routed_45, ↓e_Mdl_routed_47, ↓e_Mdl_routed_50, ↓e_Mdl_routed_52, ↓e_Mdl_routed_54, ↓e_Mdl_routed_55, ↓e_Mdl_routed_57, ↓e_Mdl_routed_58, ↓e_Mdl_routed_60, ↓e_Mdl_routed_61, ↓e_Mdl_routed_64, ↓e_Mdl_routed_65, ↓e_Mdl_routed_68, ↓e_Mdl_routed_69, ↓e_Mdl_routed_72, ↓e_Mdl_routed_73, ↓e_Mdl_routed_74, ↓e_Mdl_routed_77, ↓e_Mdl_routed_80, ↓e_Mdl_routed_83, ↓e_Mdl_routed_84, not_true_eq_false, not_false_eq_true, one0, true_or, or_true, eq_self, bI_z, bI_nz, bI_o, b_ft, bI_1, bI_0, ↓kC_l, ↓kC_r, Option.toList_some, Option.toList_none, List.cons_append, List.nil_append, s1_0, s1_1i, s1_1r, s1_1w, s1_1n, s1_s, s2_0, s2_1i, s2_1r, s2_1w, s2_1n, s2_s, gI_sI, gI_sR, gI_sL, gI_sD, gR_sI, gR_sR, gR_sL, gR_sD, gL_sI, gL_sR, gL_sL, gL_sD, gD_sI, gD_sR, gD_sL, gD_sD, isK_sI, isK_sR, isK_sL, isK_sD, inL_sI, inL_sR, inL_sL, inL_sD, nx_sI, nx_sR, nx_sL, nx_sD, kd_sI, kd_sR, kd_sL, kd_sD, ln_sI, ln_sR, ln_sL, ln_sD, ↓reduceIte, c8_n, c8_1, c8_2, c8_3, c8_4, Nat.reduceAdd, R.k, R.r9, R.k122, i1]
  have k3 := I.1
  rw [pre, e1 Q, e_Mdl_routed_10]
  simp only [↓e_Mdl_routed_0, ↓e_Mdl_routed_1, ↓e_Mdl_routed_2, ↓e_Mdl_routed_3, ↓e_Mdl_routed_6, ↓e_Mdl_routed_9, ↓e_Mdl_routed_11, ↓e_Mdl_routed_16, ↓e_Mdl_routed_19, ↓e_Mdl_routed_20, ↓e_Mdl_routed_25, ↓e_Mdl_routed_28, ↓e_Mdl_routed_29, ↓e_Mdl_routed_30, ↓e_Mdl_routed_33, ↓e_Mdl_routed_35, ↓e_Mdl_routed_37, ↓e_Mdl_routed_38, ↓e_Mdl_routed_40, ↓e_Mdl_routed_41, ↓e_Mdl_routed_45, ↓e_Mdl_routed_47, ↓e_Mdl_routed_50, ↓e_Mdl_routed_52, ↓e_Mdl_routed_54, ↓e_Mdl_routed_55, ↓e_Mdl_routed_57, ↓e_Mdl_routed_58, ↓e_Mdl_routed_60, ↓e_Mdl_routed_61, ↓e_Mdl_routed_64, ↓e_Mdl_routed_65, ↓e_Mdl_routed_68, ↓e_Mdl_routed_69, ↓e_Mdl_routed_72, ↓e_Mdl_routed_73, ↓e_Mdl_routed_74, ↓e_Mdl_routed_77, ↓e_Mdl_routed_80, ↓e_Mdl_routed_83, ↓e_Mdl_routed_84, not_true_eq_false, not_false_eq_true, one0, true_or, or_true, eq_self, bI_z, bI_nz, bI_o, b_ft, bI_1, bI_0, ↓kC_l, ↓kC_r, Option.toList_some, Option.toList_none, List.cons_append, List.nil_append, s1_0, s1_1i, s1_1r, s1_1w, s1_1n, s1_s, s2_0, s2_1i, s2_1r, s2_1w, s2_1n, s2_s, gI_sI, gI_sR, gI_sL, gI_sD, gR_sI, gR_sR, gR_sL, gR_sD, gL_sI, gL_sR, gL_sL, gL_sD, gD_sI, gD_sR, gD_sL, gD_sD, isK_sI, isK_sR, isK_sL, isK_sD, inL_sI, inL_sR, inL_sL, inL_sD, nx_sI, nx_sR, nx_sL, nx_sD, kd_sI, kd_sR, kd_sL, kd_sD, ln_sI, ln_sR, ln_sL, ln_sD, ↓reduceIte, c8_n, c8_1, c8_2, c8_3, c8_4, Nat.reduceAdd, k3, q_zhas _ Lg I (Nat.le_refl n), Nat.lt_irrefl, decide_false]
theorem q_mexchange (R : RM τ n p (8 * B) c B K h) (hn1 : nx h + 1000 ≤ 580300) (hs1 : sc h + 7000 ≤ 5700000) (x : Int32) :
    ∃ v h', (∀ Q, WP Gm j_Mdl_exchange 0 [some (.inr (.inl (some 121))), some (.inl x), none] [] h Q = Q (.inl (some (.inl v))) h') ∧ Mo τ n c B K h h' := by
  have F := R.F
  have R0 : RM τ n p (8 * B) c B K (sI h 121 0 0) := R.th
  cases e1 : (decide (1 ≤ x) && decide (x ≤ 10)) with
  | false =>
    refine ⟨0, sI (sI h 121 0 0) 121 0 1, fun Q => ?_, Mo.sw R (R.sth2 0 1) (by show nx h ≤ _; omega) (by show sc h ≤ _; omega)⟩
    simp only [↓e_Mdl_exchange_0, ↓e_Mdl_exchange_1, ↓e_Mdl_exchange_2, ↓e_Mdl_exchange_3, ↓e_Mdl_exchange_5, ↓e_Mdl_exchange_8, ↓e_Mdl_exchange_11, ↓e_Mdl_exchange_12, ↓e_Mdl_exchange_15, ↓e_Mdl_exchange_16, ↓e_Mdl_exchange_17, ↓e_Mdl_exchange_20, ↓e_Mdl_exchange_23, ↓e_Mdl_exchange_24, ↓e_Mdl_exchange_25, ↓e_Mdl_exchange_26, ↓e_Mdl_exchange_27, ↓e_Mdl_exchange_28, ↓e_Mdl_exchange_29, ↓e_Mdl_exchange_32, ↓e_Mdl_exchange_33, ↓e_Mdl_exchange_36, ↓e_Mdl_exchange_39, ↓e_Mdl_exchange_42, ↓e_Mdl_exchange_43, ↓e_Mdl_exchange_44, ↓e_Mdl_exchange_47, ↓e_Mdl_exchange_48, ↓e_Mdl_exchange_49, ↓e_Mdl_exchange_52, ↓e_Mdl_exchange_53, ↓e_Mdl_exchange_56, not_true_eq_false, not_false_eq_true, one0, true_or, or_true, eq_self, bI_z, bI_nz, bI_o, b_ft, bI_1, bI_0, ↓kC_l, ↓kC_r, Option.toList_some, Option.toList_none, List.cons_append, List.nil_append, s1_0, s1_1i, s1_1r, s1_1w, s1_1n, s1_s, s2_0, s2_1i, s2_1r, s2_1w, s2_1n, s2_s, gI_sI, gI_sR, gI_sL, gI_sD, gR_sI, gR_sR, gR_sL, gR_sD, gL_sI, gL_sR, gL_sL, gL_sD, gD_sI, gD_sR, gD_sL, gD_sD, isK_sI, isK_sR, isK_sL, isK_sD, inL_sI, inL_sR, inL_sL, inL_sD, nx_sI, nx_sR, nx_sL, nx_sD, kd_sI, kd_sR, kd_sL, kd_sD, ln_sI, ln_sR, ln_sL, ln_sD, ↓reduceIte, c8_n, c8_1, c8_2, c8_3, c8_4, Nat.reduceAdd, R.k, q_misIn, e1, q_stT _ R]
  | true =>
    obtain ⟨t, t1, t2, rfl⟩ := i32_cases1 (a := 1) (b := 10) (by omega) e1 (by omega)
    have Sh : Sw τ h (sI h 121 0 0) := R.sth 0
    obtain ⟨g, e2, Rg, Xg, Gg, ng, sg⟩ := loopR (fun Q k (g : Hp) => WP Gm j_Mdl_exchange 27 [some (.inr (.inl (some 121))), some (.inl (ii t)), some (.inl (ii k))] [] g Q)
      (fun k g => RM τ n p (8 * B) c B K g ∧ Ext τ h τ g ∧ Ag τ S0 h g ∧ nx g ≤ nx h + 18 * k ∧ sc g ≤ sc h + 144 * k) t
      (fun k g hk hI => by
        obtain ⟨Rg, Xg, Gg, ng, sg⟩ := hI
        obtain ⟨u, u1, u2, u3, u4, u5, u6⟩ := q_mexOnce Rg (by omega) (by omega)
        refine ⟨u, fun Q => ?_, u2, Xg.trans u3, Gg.trans F Xg S01 u4, by omega, by omega⟩
        rw [e_Mdl_exchange_27]
        simp only [↓e_Mdl_exchange_0, ↓e_Mdl_exchange_1, ↓e_Mdl_exchange_2, ↓e_Mdl_exchange_3, ↓e_Mdl_exchange_5, ↓e_Mdl_exchange_8, ↓e_Mdl_exchange_11, ↓e_Mdl_exchange_12, ↓e_Mdl_exchange_15, ↓e_Mdl_exchange_16, ↓e_Mdl_exchange_17, ↓e_Mdl_exchange_20, ↓e_Mdl_exchange_23, ↓e_Mdl_exchange_24, ↓e_Mdl_exchange_25, ↓e_Mdl_exchange_26, ↓e_Mdl_exchange_28, ↓e_Mdl_exchange_29, ↓e_Mdl_exchange_32, ↓e_Mdl_exchange_33, ↓e_Mdl_exchange_36, ↓e_Mdl_exchange_39, ↓e_Mdl_exchange_42, ↓e_Mdl_exchange_43, ↓e_Mdl_exchange_44, ↓e_Mdl_exchange_47, ↓e_Mdl_exchange_48, ↓e_Mdl_exchange_49, ↓e_Mdl_exchange_52, ↓e_Mdl_exchange_53, ↓e_Mdl_exchange_56, not_true_eq_false, not_false_eq_true, one0, true_or, or_true, eq_self, bI_z, bI_nz, bI_o, b_ft, bI_1, bI_0, ↓kC_l, ↓kC_r, Option.toList_some, Option.toList_none, List.cons_append, List.nil_append, s1_0, s1_1i, s1_1r, s1_1w, s1_1n, s1_s, s2_0, s2_1i, s2_1r, s2_1w, s2_1n, s2_s, gI_sI, gI_sR, gI_sL, gI_sD, gR_sI, gR_sR, gR_sL, gR_sD, gL_sI, gL_sR, gL_sL, gL_sD, gD_sI, gD_sR, gD_sL, gD_sD, isK_sI, isK_sR, isK_sL, isK_sD, inL_sI, inL_sR, inL_sL, inL_sD, nx_sI, nx_sR, nx_sL, nx_sD, kd_sI, kd_sR, kd_sL, kd_sD, ln_sI, ln_sR, ln_sL, ln_sD, ↓reduceIte, c8_n, c8_1, c8_2, c8_3, c8_4, Nat.reduceAdd, lle_f (show t < 2147483648 by omega) hk, Rg.k, u1, ii_succ]) t 0 (sI h 121 0 0) (by omega) ⟨R0, Sh.1, Sh.s0, by show nx h ≤ _; omega, by show sc h ≤ _; omega⟩
    have R3 : RM τ n p (8 * B) c B K (sI g 121 6 (gI g 121 6 + ii t)) := Rg.mdl (by omega)
    have S3 : Sw τ g (sI g 121 6 (gI g 121 6 + ii t)) := (Sw.refl τ g).sI (by rw [R.t1]; unfold OW; omega)
    obtain ⟨v, u, u1, J, nu, su⟩ := q_mrouted R3 (by show nx g + 1 ≤ _; omega) (by show sc g + 4 ≤ _; omega)
    have nu' : nx u = nx g + 1 := nu
    have su' : sc u = sc g + 4 := su
    have S4 : Sw τ g u := S3.trans J.sw
    refine ⟨v, u, fun Q => ?_, Mo.mk (Rg.sw S4) (Xg.trans S4.1) (Gg.trans F Xg S01 S4.s0) (by omega) (by omega)⟩
    have pre : WP Gm j_Mdl_exchange 0 [some (.inr (.inl (some 121))), some (.inl (ii t)), none] [] h Q = WP Gm j_Mdl_exchange 27 [some (.inr (.inl (some 121))), some (.inl (ii t)), some (.inl (ii 0))] [] (sI h 121 0 0) Q := by
      simp only [↓e_Mdl_exchange_0, ↓e_Mdl_exchange_1, ↓e_Mdl_exchange_2, ↓e_Mdl_exchange_3, ↓e_Mdl_exchange_5, ↓e_Mdl_exchange_8, ↓e_Mdl_exchange_11, ↓e_Mdl_exchange_12, ↓e_Mdl_exchange_15, ↓e_Mdl_exchange_16, ↓e_Mdl_exchange_17, ↓e_Mdl_exchange_20, ↓e_Mdl_exchange_23, ↓e_Mdl_exchange_24, ↓e_Mdl_exchange_25, ↓e_Mdl_exchange_26, ↓e_Mdl_exchange_28, ↓e_Mdl_exchange_29, ↓e_Mdl_exchange_32, ↓e_Mdl_exchange_33, ↓e_Mdl_exchange_36, ↓e_Mdl_exchange_39, ↓e_Mdl_exchange_42, ↓e_Mdl_exchange_43, ↓e_Mdl_exchange_44, ↓e_Mdl_exchange_47, ↓e_Mdl_exchange_48, ↓e_Mdl_exchange_49, ↓e_Mdl_exchange_52, ↓e_Mdl_exchange_53, ↓e_Mdl_exchange_56, not_true_eq_false, not_false_eq_true, one0, true_or, or_true, eq_self, bI_z, bI_nz, bI_o, b_ft, bI_1, bI_0, ↓kC_l, ↓kC_r, Option.toList_some, Option.toList_none, List.cons_append, List.nil_append, s1_0, s1_1i, s1_1r, s1_1w, s1_1n, s1_s, s2_0, s2_1i, s2_1r, s2_1w, s2_1n, s2_s, gI_sI, gI_sR, gI_sL, gI_sD, gR_sI, gR_sR, gR_sL, gR_sD, gL_sI, gL_sR, gL_sL, gL_sD, gD_sI, gD_sR, gD_sL, gD_sD, isK_sI, isK_sR, isK_sL, isK_sD, inL_sI, inL_sR, inL_sL, inL_sD, nx_sI, nx_sR, nx_sL, nx_sD, kd_sI, kd_sR, kd_sL, kd_sD, ln_sI, ln_sR, ln_sL, ln_sD, ↓reduceIte, c8_n, c8_1, c8_2, c8_3, c8_4, Nat.reduceAdd, R.k, q_misIn, e1, q_stF _ R]
      rfl
    rw [pre, e2 Q, e_Mdl_exchange_27]
    simp only [↓e_Mdl_exchange_0, ↓e_Mdl_exchange_1, ↓e_Mdl_exchange_2, ↓e_Mdl_exchange_3, ↓e_Mdl_exchange_5, ↓e_Mdl_exchange_8, ↓e_Mdl_exchange_11, ↓e_Mdl_exchange_12, ↓e_Mdl_exchange_15, ↓e_Mdl_exchange_16, ↓e_Mdl_exchange_17, ↓e_Mdl_exchange_20, ↓e_Mdl_exchange_23, ↓e_Mdl_exchange_24, ↓e_Mdl_exchange_25, ↓e_Mdl_exchange_26, ↓e_Mdl_exchange_28, ↓e_Mdl_exchange_29, ↓e_Mdl_exchange_32, ↓e_Mdl_exchange_33, ↓e_Mdl_exchange_36, ↓e_Mdl_exchange_39, ↓e_Mdl_exchange_42, ↓e_Mdl_exchange_43, ↓e_Mdl_exchange_44, ↓e_Mdl_exchange_47, ↓e_Mdl_exchange_48, ↓e_Mdl_exchange_49, ↓e_Mdl_exchange_52, ↓e_Mdl_exchange_53, ↓e_Mdl_exchange_56, not_true_eq_false, not_false_eq_true, one0, true_or, or_true, eq_self, bI_z, bI_nz, bI_o, b_ft, bI_1, bI_0, ↓kC_l, ↓kC_r, Option.toList_some, Option.toList_none, List.cons_append, List.nil_append, s1_0, s1_1i, s1_1r, s1_1w, s1_1n, s1_s, s2_0, s2_1i, s2_1r, s2_1w, s2_1n, s2_s, gI_sI, gI_sR, gI_sL, gI_sD, gR_sI, gR_sR, gR_sL, gR_sD, gL_sI, gL_sR, gL_sL, gL_sD, gD_sI, gD_sR, gD_sL, gD_sD, isK_sI, isK_sR, isK_sL, isK_sD, inL_sI, inL_sR, inL_sL, inL_sD, nx_sI, nx_sR, nx_sL, nx_sD, kd_sI, kd_sR, kd_sL, kd_sD, ln_sI, ln_sR, ln_sL, ln_sD, ↓reduceIte, c8_n, c8_1, c8_2, c8_3, c8_4, Nat.reduceAdd, lle_t (show t < 2147483648 by omega), Rg.k, R3.k, u1, Nat.reduceEqDiff, and_false, and_self]
end MM2
