/-! pmnew: the reference's calls: how they begin; a node is made -/
section MNEW
variable {τ : Nat → Nat} {n A c B : Nat} {K : Int32} {p : Nat → Nat} {h h' h2 : Hp}
/-- after a call of the reference, which now has n nodes -/
def Mog (S : Nat → Prop) (τ : Nat → Nat) (n' c B : Nat) (K : Int32) (h h' : Hp) : Prop := ∃ τ' p' c' B', RM τ' n' p' (8 * B') c' B' K h' ∧ Ext τ h τ' h' ∧ Ag τ S h h' ∧ B ≤ B' ∧ nx h' + 33 * B ≤ nx h + 1000 + 33 * B' ∧ sc h' + 4 * c + 648 * B ≤ sc h + 7000 + 4 * c' + 648 * B'
abbrev Mo (τ : Nat → Nat) (n' c B : Nat) (K : Int32) (h h' : Hp) : Prop := Mog S0 τ n' c B K h h'
theorem Mo.m {n' : Nat} (M : Mo τ n' c B K h h') : Mog SM9 τ n' c B K h h' := by
  obtain ⟨τ', p', c', B', R, X, G, r⟩ := M
  exact ⟨τ', p', c', B', R, X, G.mono fun s w => by unfold S0 at w; unfold SM9; omega, r⟩
theorem Sw.s0 (x : Sw τ h h') : Ag τ S0 h h' := x.ag fun z hz k w => by
  unfold S0 at hz
  unfold OW at w
  omega
theorem Mo.sw (R : RM τ n p (8 * B) c B K h) (x : Sw τ h h') (hn : nx h' ≤ nx h + 1000) (hs : sc h' ≤ sc h + 7000) : Mo τ n c B K h h' :=
  ⟨τ, p, c, B, R.sw x, x.1, x.s0, Nat.le_refl _, by omega, by omega⟩
theorem Mo.mk {S : Nat → Prop} {τ' p' : _} {n' c' : Nat} (R : RM τ' n' p' (8 * B) c' B K h') (X : Ext τ h τ' h') (G : Ag τ S h h') (hn : nx h' ≤ nx h + 1000) (hs : sc h' + 4 * c ≤ sc h + 7000 + 4 * c') : Mog S τ n' c B K h h' :=
  ⟨τ', p', c', B, R, X, G, Nat.le_refl _, by omega, by omega⟩
theorem RM.th {v : Int32} (R : RM τ n p A c B K h) : RM τ n p A c B K (sI h 121 0 v) := R.sw ((Sw.refl τ h).sI (by rw [R.t1]; unfold OW; omega))
theorem RM.sth (R : RM τ n p A c B K h) (v : Int32) : Sw τ h (sI h 121 0 v) := (Sw.refl τ h).sI (by rw [R.t1]; unfold OW; omega)
theorem RM.sth2 (R : RM τ n p A c B K h) (v w : Int32) : Sw τ h (sI (sI h 121 0 v) 121 0 w) := (R.sth v).sI (by rw [R.t1]; unfold OW; omega)
theorem q_stT (Q : MRes → Hp → Prop) (R : RM τ n p A c B K h) : WP Gm j_Mdl_start 0 [some (.inr (.inl (some 121))), some (.inl 1), some (.inl 1)] [] h Q = Q (.inl (some (.inl 1))) (sI (sI h 121 0 0) 121 0 1) := by
  have e := q_mstart (Q := Q) R.k true 1
  rw [if_pos rfl] at e
  exact e
theorem q_stF (Q : MRes → Hp → Prop) (R : RM τ n p A c B K h) : WP Gm j_Mdl_start 0 [some (.inr (.inl (some 121))), some (.inl 0), some (.inl 1)] [] h Q = Q (.inl (some (.inl 0))) (sI h 121 0 0) := by
  have e := q_mstart (Q := Q) R.k false 1
  rw [if_neg (by decide)] at e
  exact e
theorem q_rfT (Q : MRes → Hp → Prop) (R : RM τ n p A c B K h) {w : Int32} (hw : 0 < w) (h0 : gI h 121 0 = 0) : WP Gm j_Mdl_refuse 0 [some (.inr (.inl (some 121))), some (.inl 1), some (.inl w)] [] h Q = Q (.inl (some (.inl 1))) (sI h 121 0 w) := by
  have e := q_mrefuse (Q := Q) R.k true w
  rw [if_pos ⟨rfl, h0⟩, decide_eq_true hw] at e
  exact e
theorem q_rfF (Q : MRes → Hp → Prop) (R : RM τ n p A c B K h) (w : Int32) (h0 : gI h 121 0 = 0) : WP Gm j_Mdl_refuse 0 [some (.inr (.inl (some 121))), some (.inl 0), some (.inl w)] [] h Q = Q (.inl (some (.inl 0))) h := by
  have e := q_mrefuse (Q := Q) R.k false w
  rw [if_neg (by simp), h0] at e
  exact e
theorem th0 (h : Hp) : gI (sI h 121 0 0) 121 0 = 0 := by rw [gI_sI, if_pos ⟨rfl, rfl⟩]
theorem i32_cases {x : Int32} {b : Nat} (hb : b < 2147483648) (h1 : (decide (0 ≤ x) && decide (x ≤ ii b)) = true) : ∃ k, k ≤ b ∧ x = ii k := by
  simp only [Bool.and_eq_true, decide_eq_true_eq] at h1
  obtain ⟨h1, h2⟩ := h1
  have e0 : (0 : Int32).toInt = 0 := by decide
  have a1 := Int32.le_iff_toInt_le.mp h1
  have a2 := Int32.le_iff_toInt_le.mp h2
  rw [e0] at a1
  rw [ii_int (by omega)] at a2
  refine ⟨x.toInt.toNat, by omega, ?_⟩
  apply Int32.toInt_inj.mp
  rw [ii_int (by omega)]
  omega
theorem i32_cases1 {x : Int32} {a b : Nat} (hb : b < 2147483648) (h1 : (decide (ii a ≤ x) && decide (x ≤ ii b)) = true) (ha : a ≤ b) : ∃ k, a ≤ k ∧ k ≤ b ∧ x = ii k := by
  have h2 := h1
  simp only [Bool.and_eq_true, decide_eq_true_eq] at h2
  obtain ⟨h2, h3⟩ := h2
  have z : (0 : Int32) ≤ x := by
    refine Int32.le_trans ?_ h2
    rw [z_ii, ii_le (by omega) (by omega)]
    omega
  obtain ⟨k, k1, k2⟩ := i32_cases (x := x) (b := b) hb (by rw [decide_eq_true z, decide_eq_true h3]; rfl)
  refine ⟨k, ?_, k1, k2⟩
  rw [k2, ii_le (by omega) (by omega)] at h2
  exact h2
/-- who is a node -/
theorem node_cases (hn : n ≤ 8) (x : Int32) : (!(decide (0 ≤ x) && decide (x ≤ ii n - 1))) = true ∨ ((!(decide (0 ≤ x) && decide (x ≤ ii n - 1))) = false ∧ ∃ i, i < n ∧ x = ii i) := by
  cases hb : (decide (0 ≤ x) && decide (x ≤ ii n - 1)) with
  | false => exact Or.inl rfl
  | true =>
    refine Or.inr ⟨rfl, ?_⟩
    rcases Nat.eq_zero_or_pos n with e | e
    · subst e
      exfalso
      simp only [Bool.and_eq_true, decide_eq_true_eq] at hb
      have := Int32.le_trans hb.1 hb.2
      exact absurd this (by decide)
    · have e1 : ii n - 1 = ii (n - 1) := ii_pred e
      rw [e1] at hb
      obtain ⟨k, k1, k2⟩ := i32_cases (by omega) hb
      exact ⟨k, by omega, k2⟩
theorem q_listInit (Q : MRes → Hp → Prop) {a : Nat} (hk : isK h a kc_ArrayList = true) : WP Gm j_ArrayList_init 0 [some (.inr (.inl (some a)))] [] h Q = Q (.inl none) (sR (sI h a 0 0) a 1 (some eD)) := by
  simp only [↓e_ArrayList_init_0, ↓e_ArrayList_init_1, ↓e_ArrayList_init_4, ↓e_ArrayList_init_5, ↓e_ArrayList_init_8, ↓e_ArrayList_init_11, ↓e_AbstractList_init_0, ↓e_AbstractList_init_1, ↓e_AbstractList_init_4, ↓e_AbstractList_init_5, ↓e_AbstractList_init_6, ↓e_AbstractList_init_9, ↓e_AbstractCollection_init_0, ↓e_AbstractCollection_init_1, ↓e_AbstractCollection_init_4, not_true_eq_false, not_false_eq_true, one0, true_or, or_true, eq_self, bI_z, bI_nz, bI_o, b_ft, bI_1, bI_0, ↓kC_l, ↓kC_r, Option.toList_some, Option.toList_none, List.cons_append, List.nil_append, s1_0, s1_1i, s1_1r, s1_1w, s1_1n, s1_s, s2_0, s2_1i, s2_1r, s2_1w, s2_1n, s2_s, gI_sI, gI_sR, gI_sL, gI_sD, gR_sI, gR_sR, gR_sL, gR_sD, gL_sI, gL_sR, gL_sL, gL_sD, gD_sI, gD_sR, gD_sL, gD_sD, isK_sI, isK_sR, isK_sL, isK_sD, inL_sI, inL_sR, inL_sL, inL_sD, nx_sI, nx_sR, nx_sL, nx_sD, kd_sI, kd_sR, kd_sL, kd_sD, ln_sI, ln_sR, ln_sL, ln_sD, ↓reduceIte, c8_n, c8_1, c8_2, c8_3, c8_4, Nat.reduceAdd, hk]
/-- a node's cells as its constructor leaves them -/
def Nc (h : Hp) (q : Nat) : Prop := isK h q kc_MNode = true ∧ (gR h q 4 = some (q + 1) ∧ gR h q 16 = some (q + 2) ∧ gR h q 17 = some (q + 3)) ∧ (isK h (q + 2) 100 = true ∧ ln h (q + 2) = 8) ∧ (isK h (q + 3) 100 = true ∧ ln h (q + 3) = 8) ∧ Li h (q + 1) eD 0 ∧ (∀ j, j < 8 → gI h (q + 3) j = -1) ∧ gI h q 7 = 0 ∧ gI h q 11 = 0
theorem q_zNodeInit (F : Fs τ h) {q : Nat} (hq : nx h = q + 1) (tq : τ q = 1) (hq2 : 121 < q) (hk : isK h q kc_MNode = true) (z : ∀ j, gI h q j = 0) (hn : nx h + 10 ≤ 580300) (hs : sc h + 100 ≤ 5700000) (x y r : Int32) {ch : Int32} (hc : ch = 0 ∨ ch = 1) :
    ∃ h', (∀ Q, WP Gm j_MNode_init 0 [some (.inr (.inl (some q))), some (.inl x), some (.inl y), some (.inl r), some (.inl ch), none] [] h Q = Q (.inl none) h') ∧ Jk τ h h' ∧ Nc h' q ∧ nx h' = q + 4 ∧ sc h' = sc h + 19 := by
  have t1 : ∀ j, q + 1 ≤ j → τ j = 1 := fun j hj => F.j (by omega)
  have hr1 : okR cM sM h 1 3 = true := ok_big (by omega) (by omega)
  have z8 : (8 : Int32).toNatClampNeg = 8 := by decide
  have l8 : ((0 : Int32) ≤ 8) = True := eq_true (by decide)
  have hD : eD = 1000000001 := rfl
  -- the list
  generalize hh1 : sI (sR (sR (sI (hN h kc_ArrayList 0 3) (q + 1) 0 0) (q + 1) 1 (some eD)) q 4 (some (q + 1))) q 8 (-1) = h1
  have J1 : Jk τ h h1 := by rw [← hh1]; exact (((((Jk.refl τ h).hN (by rw [hq]; exact t1 _ (by omega))).sI (t1 _ (by omega))).sR (t1 _ (by omega))).sR tq).sI tq
  have n1 : nx h1 = q + 2 := by rw [← hh1]; show nx h + 1 = _; omega
  have s1 : sc h1 = sc h + 3 := by rw [← hh1]; rfl
  have k1 : isK h1 q kc_MNode = true := J1.1.k hk
  have kl : isK (hN h kc_ArrayList 0 3) (q + 1) kc_ArrayList = true := by rw [← hq]; exact isK_new
  have kq0 : isK (hN h kc_ArrayList 0 3) q kc_MNode = true := by rw [isK_hN (isK_lt hk)]; exact hk
  have kl1 : isK h1 (q + 1) kc_ArrayList = true := by rw [← hh1]; exact kl
  have hr2 : okR cM sM h1 1 8 = true := ok_big (by omega) (by omega)
  generalize hh2 : sR (hN h1 100 8 8) q 16 (some (q + 2)) = h2
  have J2 : Jk τ h1 h2 := by rw [← hh2]; exact ((Jk.refl τ h1).hN (by rw [n1]; exact t1 _ (by omega))).sR tq
  have n2 : nx h2 = q + 3 := by rw [← hh2]; show nx h1 + 1 = _; omega
  have s2 : sc h2 = sc h + 11 := by rw [← hh2]; show sc h1 + 8 = _; omega
  have k2 : isK h2 q kc_MNode = true := J2.1.k k1
  have kq1 : isK (hN h1 100 8 8) q kc_MNode = true := by rw [isK_hN (isK_lt k1)]; exact k1
  have c2 : isK h2 (q + 2) 100 = true := by rw [← hh2, ← n1]; exact isK_new
  have cl2 : ln h2 (q + 2) = 8 := by rw [← hh2, ← n1]; exact if_pos rfl
  have hr3 : okR cM sM h2 1 8 = true := ok_big (by omega) (by omega)
  generalize hh3 : sI (sI (sI (sI (sR (hN h2 100 8 8) q 17 (some (q + 3))) q 0 x) q 1 y) q 2 r) q 3 ch = h3
  have J3 : Jk τ h2 h3 := by rw [← hh3]; exact ((((((Jk.refl τ h2).hN (by rw [n2]; exact t1 _ (by omega))).sR tq).sI tq).sI tq).sI tq).sI tq
  have n3 : nx h3 = q + 4 := by rw [← hh3]; show nx h2 + 1 = _; omega
  have s3 : sc h3 = sc h + 19 := by rw [← hh3]; show sc h2 + 8 = _; omega
  have k3 : isK h3 q kc_MNode = true := J3.1.k k2
  have kq2 : isK (hN h2 100 8 8) q kc_MNode = true := by rw [isK_hN (isK_lt k2)]; exact k2
  have d3 : isK h3 (q + 3) 100 = true := by rw [← hh3, ← n2]; exact isK_new
  have dl3 : ln h3 (q + 3) = 8 := by rw [← hh3, ← n2]; exact if_pos rfl
  have c3 : isK h3 (q + 2) 100 = true := J3.1.k c2
  have cl3 : ln h3 (q + 2) = 8 := by rw [J3.1.l c2]; exact cl2
  have kl3 : isK h3 (q + 1) kc_ArrayList = true := J3.1.k (J2.1.k kl1)
  have q0 : ¬ q = nx h1 := by omega
  have q1' : ¬ q = nx h2 := by omega
  have q2' : ¬ q = nx h := by omega
  have r4 : gR h3 q 4 = some (q + 1) := by
    rw [← hh3, gR_sI, gR_sI, gR_sI, gR_sI, gR_sR, if_neg (by omega), gR_hN, if_neg q1', ← hh2, gR_sR, if_neg (by omega), gR_hN, if_neg q0, ← hh1, gR_sI, gR_sR, if_pos ⟨rfl, rfl⟩]
  have r16 : gR h3 q 16 = some (q + 2) := by
    rw [← hh3, gR_sI, gR_sI, gR_sI, gR_sI, gR_sR, if_neg (by omega), gR_hN, if_neg q1', ← hh2, gR_sR, if_pos ⟨rfl, rfl⟩]
  have r17 : gR h3 q 17 = some (q + 3) := by
    rw [← hh3, gR_sI, gR_sI, gR_sI, gR_sI, gR_sR, if_pos ⟨rfl, rfl⟩]
  have lr : gR h3 (q + 1) 1 = some eD := by
    rw [← hh3, gR_sI, gR_sI, gR_sI, gR_sI, gR_sR, if_neg (by omega), gR_hN, if_neg (by omega), ← hh2, gR_sR, if_neg (by omega), gR_hN, if_neg (by omega), ← hh1, gR_sI, gR_sR, if_neg (by omega), gR_sR, if_pos ⟨rfl, rfl⟩]
  have ls2 : gI h3 (q + 1) 2 = ii 0 := by
    rw [← hh3, gI_sI, if_neg (by omega), gI_sI, if_neg (by omega), gI_sI, if_neg (by omega), gI_sI, if_neg (by omega), gI_sR, gI_hN, if_neg (by omega), ← hh2, gI_sR, gI_hN, if_neg (by omega), ← hh1, gI_sI, if_neg (by omega), gI_sR, gI_sR, gI_sI, if_neg (by omega), gI_hN, if_pos (by omega)]
    rfl
  have lz : ∀ j, ¬ j = 8 → ¬ j ≤ 3 → gI h3 q j = 0 := fun j hj hj2 => by
    rw [← hh3, gI_sI, if_neg (by omega), gI_sI, if_neg (by omega), gI_sI, if_neg (by omega), gI_sI, if_neg (by omega), gI_sR, gI_hN, if_neg (by omega), ← hh2, gI_sR, gI_hN, if_neg (by omega), ← hh1, gI_sI, if_neg (by omega), gI_sR, gI_sR, gI_sI, if_neg (by omega), gI_hN, if_neg (by omega)]
    exact z j
  obtain ⟨g, e1, J, gk, gR4, ng, sg, gz, gv⟩ := loopR (fun Q k (g : Hp) => WP Gm j_MNode_init 60 [some (.inr (.inl (some q))), some (.inl x), some (.inl y), some (.inl r), some (.inl ch), some (.inl (ii k))] [] g Q)
    (fun k g => Jk τ h3 g ∧ isK g q kc_MNode = true ∧ (∀ b j, gR g b j = gR h3 b j) ∧ nx g = q + 4 ∧ sc g = sc h + 19 ∧ (∀ b j, b < q + 2 → gI g b j = gI h3 b j) ∧ ∀ j, j < k → gI g (q + 3) j = -1) 8
    (fun k g hk8 hI => by
      obtain ⟨J, gk, gR4, ng, sg, gz, gv⟩ := hI
      have kc2 : isK g (q + 2) 100 = true := J.1.k c3
      have kd2 : isK g (q + 3) 100 = true := J.1.k d3
      have i2 : inL g (q + 2) (ii k) = true := inL_n (by omega) (by rw [J.1.l c3, cl3]; exact hk8)
      have i3 : inL g (q + 3) (ii k) = true := inL_n (by omega) (by rw [J.1.l d3, dl3]; exact hk8)
      have n02 : (q + 2 = 0) = False := eq_false (by omega)
      have n03 : (q + 3 = 0) = False := eq_false (by omega)
      refine ⟨sI (sI g (q + 2) k (-1)) (q + 3) k (-1), fun Q => ?_, (J.sI (t1 _ (by omega))).sI (t1 _ (by omega)), gk, gR4, ng, sg, fun b j hb => ?_, fun j hj => ?_⟩
      · rw [e_MNode_init_60]
        simp only [↓e_MNode_init_0, ↓e_MNode_init_1, ↓e_MNode_init_4, ↓e_MNode_init_5, ↓e_MNode_init_8, ↓e_MNode_init_9, ↓e_MNode_init_12, ↓e_MNode_init_15, ↓e_MNode_init_16, ↓e_MNode_init_17, ↓e_MNode_init_20, ↓e_MNode_init_21, ↓e_MNode_init_23, ↓e_MNode_init_25, ↓e_MNode_init_28, ↓e_MNode_init_29, ↓e_MNode_init_31, ↓e_MNode_init_33, ↓e_MNode_init_36, ↓e_MNode_init_37, ↓e_MNode_init_38, ↓e_MNode_init_41, ↓e_MNode_init_42, ↓e_MNode_init_43, ↓e_MNode_init_46, ↓e_MNode_init_47, ↓e_MNode_init_48, ↓e_MNode_init_51, ↓e_MNode_init_52, ↓e_MNode_init_54, ↓e_MNode_init_57, ↓e_MNode_init_58, ↓e_MNode_init_62, ↓e_MNode_init_64, ↓e_MNode_init_67, ↓e_MNode_init_68, ↓e_MNode_init_71, ↓e_MNode_init_73, ↓e_MNode_init_74, ↓e_MNode_init_75, ↓e_MNode_init_76, ↓e_MNode_init_79, ↓e_MNode_init_81, ↓e_MNode_init_82, ↓e_MNode_init_83, ↓e_MNode_init_86, ↓e_MNode_init_89, not_true_eq_false, not_false_eq_true, one0, true_or, or_true, eq_self, bI_z, bI_nz, bI_o, b_ft, bI_1, bI_0, ↓kC_l, ↓kC_r, Option.toList_some, Option.toList_none, List.cons_append, List.nil_append, s1_0, s1_1i, s1_1r, s1_1w, s1_1n, s1_s, s2_0, s2_1i, s2_1r, s2_1w, s2_1n, s2_s, gI_sI, gI_sR, gI_sL, gI_sD, gR_sI, gR_sR, gR_sL, gR_sD, gL_sI, gL_sR, gL_sL, gL_sD, gD_sI, gD_sR, gD_sL, gD_sD, isK_sI, isK_sR, isK_sL, isK_sD, inL_sI, inL_sR, inL_sL, inL_sD, nx_sI, nx_sR, nx_sL, nx_sD, kd_sI, kd_sR, kd_sL, kd_sD, ln_sI, ln_sR, ln_sL, ln_sD, ↓reduceIte, c8_n, c8_1, c8_2, c8_3, c8_4, Nat.reduceAdd, lle_f (show 8 < 2147483648 by omega) hk8, gk, gR4, r16, r17, kc2, kd2, i2, i3, n02, n03, ii_nat (show k < 2147483648 by omega), ii_succ, (show ((8 : Int32) ≤ ii k) = False from lle_f (n := 8) (by omega) hk8)]
      · rw [gI_sI, if_neg (by omega), gI_sI, if_neg (by omega)]
        exact gz b j hb
      · rw [gI_sI]
        by_cases e : j = k
        · rw [if_pos ⟨rfl, e⟩]
        · rw [if_neg (fun w => e w.2), gI_sI, if_neg (by omega)]
          exact gv j (by omega)) 8 0 h3 (by omega) ⟨Jk.refl τ h3, k3, fun _ _ => rfl, n3, s3, fun _ _ _ => rfl, fun j hj => absurd hj (by omega)⟩
  have Jg := J1.trans (J2.trans (J3.trans J))
  refine ⟨g, fun Q => ?_, Jg, ⟨gk, ⟨by rw [gR4]; exact r4, by rw [gR4]; exact r16, by rw [gR4]; exact r17⟩, ⟨J.1.k c3, by rw [J.1.l c3]; exact cl3⟩, ⟨J.1.k d3, by rw [J.1.l d3]; exact dl3⟩, ⟨J.1.k kl3, by rw [gR4]; exact lr, by rw [gz _ _ (by omega)]; exact ls2, by omega, Or.inl ⟨rfl, rfl⟩⟩, gv, by rw [gz _ _ (by omega)]; exact lz 7 (by omega) (by omega), by rw [gz _ _ (by omega)]; exact lz 11 (by omega) (by omega)⟩, ng, sg⟩
  have hc' : (ch = 0 ∨ ch = 1) = True := eq_true hc
  have pre : WP Gm j_MNode_init 0 [some (.inr (.inl (some q))), some (.inl x), some (.inl y), some (.inl r), some (.inl ch), none] [] h Q = WP Gm j_MNode_init 60 [some (.inr (.inl (some q))), some (.inl x), some (.inl y), some (.inl r), some (.inl ch), some (.inl (ii 0))] [] h3 Q := by
    simp only [↓e_MNode_init_0, ↓e_MNode_init_1, ↓e_MNode_init_4, ↓e_MNode_init_5, ↓e_MNode_init_8, ↓e_MNode_init_9, ↓e_MNode_init_12, ↓e_MNode_init_15, ↓e_MNode_init_16, ↓e_MNode_init_17, ↓e_MNode_init_20, ↓e_MNode_init_21, ↓e_MNode_init_23, ↓e_MNode_init_25, ↓e_MNode_init_28, ↓e_MNode_init_29, ↓e_MNode_init_31, ↓e_MNode_init_33, ↓e_MNode_init_36, ↓e_MNode_init_37, ↓e_MNode_init_38, ↓e_MNode_init_41, ↓e_MNode_init_42, ↓e_MNode_init_43, ↓e_MNode_init_46, ↓e_MNode_init_47, ↓e_MNode_init_48, ↓e_MNode_init_51, ↓e_MNode_init_52, ↓e_MNode_init_54, ↓e_MNode_init_57, ↓e_MNode_init_58, ↓e_MNode_init_62, ↓e_MNode_init_64, ↓e_MNode_init_67, ↓e_MNode_init_68, ↓e_MNode_init_71, ↓e_MNode_init_73, ↓e_MNode_init_74, ↓e_MNode_init_75, ↓e_MNode_init_76, ↓e_MNode_init_79, ↓e_MNode_init_81, ↓e_MNode_init_82, ↓e_MNode_init_83, ↓e_MNode_init_86, ↓e_MNode_init_89, not_true_eq_false, not_false_eq_true, one0, true_or, or_true, eq_self, bI_z, bI_nz, bI_o, b_ft, bI_1, bI_0, ↓kC_l, ↓kC_r, Option.toList_some, Option.toList_none, List.cons_append, List.nil_append, s1_0, s1_1i, s1_1r, s1_1w, s1_1n, s1_s, s2_0, s2_1i, s2_1r, s2_1w, s2_1n, s2_s, gI_sI, gI_sR, gI_sL, gI_sD, gR_sI, gR_sR, gR_sL, gR_sD, gL_sI, gL_sR, gL_sL, gL_sD, gD_sI, gD_sR, gD_sL, gD_sD, isK_sI, isK_sR, isK_sL, isK_sD, inL_sI, inL_sR, inL_sL, inL_sD, nx_sI, nx_sR, nx_sL, nx_sD, kd_sI, kd_sR, kd_sL, kd_sD, ln_sI, ln_sR, ln_sL, ln_sD, ↓reduceIte, c8_n, c8_1, c8_2, c8_3, c8_4, Nat.reduceAdd, hk, hr1, hq, kl, q_listInit _ kl, kq0, hh1, k1, z8, l8, Nat.reduceLeDiff, and_self, hr2, n1, kq1, hh2, k2, hr3, n2, kq2, hc', hh3]
    rfl
  rw [pre, e1 Q, e_MNode_init_60]
  simp only [↓e_MNode_init_0, ↓e_MNode_init_1, ↓e_MNode_init_4, ↓e_MNode_init_5, ↓e_MNode_init_8, ↓e_MNode_init_9, ↓e_MNode_init_12, ↓e_MNode_init_15, ↓e_MNode_init_16, ↓e_MNode_init_17, ↓e_MNode_init_20, ↓e_MNode_init_21, ↓e_MNode_init_23, ↓e_MNode_init_25, ↓e_MNode_init_28, ↓e_MNode_init_29, ↓e_MNode_init_31, ↓e_MNode_init_33, ↓e_MNode_init_36, ↓e_MNode_init_37, ↓e_MNode_init_38, ↓e_MNode_init_41, ↓e_MNode_init_42, ↓e_MNode_init_43, ↓e_MNode_init_46, ↓e_MNode_init_47, ↓e_MNode_init_48, ↓e_MNode_init_51, ↓e_MNode_init_52, ↓e_MNode_init_54, ↓e_MNode_init_57, ↓e_MNode_init_58, ↓e_MNode_init_62, ↓e_MNode_init_64, ↓e_MNode_init_67, ↓e_MNode_init_68, ↓e_MNode_init_71, ↓e_MNode_init_73, ↓e_MNode_init_74, ↓e_MNode_init_75, ↓e_MNode_init_76, ↓e_MNode_init_79, ↓e_MNode_init_81, ↓e_MNode_init_82, ↓e_MNode_init_83, ↓e_MNode_init_86, ↓e_MNode_init_89, not_true_eq_false, not_false_eq_true, one0, true_or, or_true, eq_self, bI_z, bI_nz, bI_o, b_ft, bI_1, bI_0, ↓kC_l, ↓kC_r, Option.toList_some, Option.toList_none, List.cons_append, List.nil_append, s1_0, s1_1i, s1_1r, s1_1w, s1_1n, s1_s, s2_0, s2_1i, s2_1r, s2_1w, s2_1n, s2_s, gI_sI, gI_sR, gI_sL, gI_sD, gR_sI, gR_sR, gR_sL, gR_sD, gL_sI, gL_sR, gL_sL, gL_sD, gD_sI, gD_sR, gD_sL, gD_sD, isK_sI, isK_sR, isK_sL, isK_sD, inL_sI, inL_sR, inL_sL, inL_sD, nx_sI, nx_sR, nx_sL, nx_sD, kd_sI, kd_sR, kd_sL, kd_sD, ln_sI, ln_sR, ln_sL, ln_sD, ↓reduceIte, c8_n, c8_1, c8_2, c8_3, c8_4, Nat.reduceAdd, (show ((8 : Int32) ≤ ii 8) = True from eq_true (by decide))]
end MNEW
