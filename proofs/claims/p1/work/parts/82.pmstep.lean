/-! pmstep: hasArrived, draw, drop, begin -/
theorem loopX {α : Type} (P : (MRes → Hp → Prop) → Nat → α → Prop) (I : Nat → α → Prop) (G : MRes → Hp → Prop) (n : Nat) (hs : ∀ k a, k < n → I k a → (∃ r h', (∀ Q, P Q k a = Q r h') ∧ G r h') ∨ ∃ a', (∀ Q, P Q k a = P Q (k + 1) a') ∧ I (k + 1) a') (he : ∀ a, I n a → ∃ r h', (∀ Q, P Q n a = Q r h') ∧ G r h') : ∀ (m k : Nat) (a : α), k + m = n → I k a → ∃ r h', (∀ Q, P Q k a = Q r h') ∧ G r h'
  | 0, k, a, e, i => by
    have : k = n := by omega
    subst this
    exact he a i
  | m + 1, k, a, e, i => by
    rcases hs k a (by omega) i with w | ⟨a', w1, w2⟩
    · exact w
    · obtain ⟨r, h', r1, r2⟩ := loopX P I G n hs he m (k + 1) a' (by omega) w2
      exact ⟨r, h', fun Q => (w1 Q).trans (r1 Q), r2⟩
section MST
variable {τ : Nat → Nat} {n A c B : Nat} {K : Int32} {p : Nat → Nat} {h : Hp}
theorem k_int {f : Nat} (F : Fs τ h) (hf : isK h f 100 = true) (t : ¬ τ f = 0) : ¬ f = 0 := fun e => t (by rw [e]; exact F.2.2.1 0 (by omega))
theorem q_mhasArr (R : RM τ n p A c B K h) (x y : Int32) (hn : nx h + 1 ≤ 580300) (hs : sc h + 4 ≤ 5700000) : ∃ b : Bool, ∃ h', (∀ Q, WP Gm j_Mdl_hasArrived 0 [some (.inr (.inl (some 121))), some (.inl x), some (.inl y), none, none] [] h Q = Q (.inl (some (.inl (bI b)))) h') ∧ Jk τ h h' ∧ nx h' = nx h + 1 ∧ sc h' = sc h + 4 := by
  obtain ⟨k, -, -, L⟩ := R.al
  have F := R.F
  have hl : ∀ j, ¬ OW (τ 123) j := fun j => by rw [R.t3]; unfold OW; omega
  have hl1 : ¬ τ 123 = 1 := by rw [R.t3]; omega
  obtain ⟨h1, i1, i2, i3, i4, i5⟩ := q_ziter F L hl1 hn hs
  have tq : τ (nx h) = 1 := F.j (Nat.le_refl _)
  have R1 := R.sw i2.sw
  obtain ⟨r, h', r1, b, rfl, r3, r4, r5⟩ := loopX (fun Q m (a : Hp × Option MV) => WP Gm j_Mdl_hasArrived 8 [some (.inr (.inl (some 121))), some (.inl x), some (.inl y), some (.inr (.inl (some (nx h)))), a.2] [] a.1 Q)
    (fun m a => Jk τ h a.1 ∧ It a.1 (nx h) 123 m ∧ nx a.1 = nx h + 1 ∧ sc a.1 = sc h + 4) (fun r h' => ∃ b, r = .inl (some (.inl (bI b))) ∧ Jk τ h h' ∧ nx h' = nx h + 1 ∧ sc h' = sc h + 4) k
    (fun m a hm hI => by
      obtain ⟨g, v4⟩ := a
      dsimp only at hI ⊢
      obtain ⟨g1, g2, g3, g4⟩ := hI
      have Lg := L.sw g1.sw hl (by omega)
      have Rg := R.sw g1.sw
      obtain ⟨f, g', f1, f2, f3, f4, f5, f6, f7, f8⟩ := q_znext Lg g2 hm tq
      have Rg' := Rg.sw f5.sw
      obtain ⟨a1, a2⟩ := Rg'.ae f3
      have hz : ¬ f = 0 := k_int Rg'.F a1 (by omega)
      have in0 : inL g' f 0 = true := inL_n (i := 0) (by omega) (by omega)
      have in1 : inL g' f 1 = true := inL_n (i := 1) (by omega) (by omega)
      have z0 : (0 : Int32).toNatClampNeg = 0 := by decide
      have z1 : (1 : Int32).toNatClampNeg = 1 := by decide
      have k3 := g2.1
      by_cases e1 : gI g' f 0 = x
      · by_cases e2 : gI g' f 1 = y
        · refine Or.inl ⟨_, g', fun Q => ?_, true, rfl, g1.trans f5, by omega, by omega⟩
          rw [e_Mdl_hasArrived_8]
          simp only [↓e_Mdl_hasArrived_0, ↓e_Mdl_hasArrived_1, ↓e_Mdl_hasArrived_4, ↓e_Mdl_hasArrived_7, ↓e_Mdl_hasArrived_9, ↓e_Mdl_hasArrived_14, ↓e_Mdl_hasArrived_17, ↓e_Mdl_hasArrived_18, ↓e_Mdl_hasArrived_23, ↓e_Mdl_hasArrived_26, ↓e_Mdl_hasArrived_28, ↓e_Mdl_hasArrived_30, ↓e_Mdl_hasArrived_31, ↓e_Mdl_hasArrived_32, ↓e_Mdl_hasArrived_33, ↓e_Mdl_hasArrived_36, ↓e_Mdl_hasArrived_38, ↓e_Mdl_hasArrived_39, ↓e_Mdl_hasArrived_40, ↓e_Mdl_hasArrived_41, ↓e_Mdl_hasArrived_44, ↓e_Mdl_hasArrived_45, ↓e_Mdl_hasArrived_46, ↓e_Mdl_hasArrived_49, ↓e_Mdl_hasArrived_50, not_true_eq_false, not_false_eq_true, one0, true_or, or_true, eq_self, bI_z, bI_nz, bI_o, b_ft, bI_1, bI_0, ↓kC_l, ↓kC_r, Option.toList_some, Option.toList_none, List.cons_append, List.nil_append, s1_0, s1_1i, s1_1r, s1_1w, s1_1n, s1_s, s2_0, s2_1i, s2_1r, s2_1w, s2_1n, s2_s, gI_sI, gI_sR, gI_sL, gI_sD, gR_sI, gR_sR, gR_sL, gR_sD, gL_sI, gL_sR, gL_sL, gL_sD, gD_sI, gD_sR, gD_sL, gD_sD, isK_sI, isK_sR, isK_sL, isK_sD, inL_sI, inL_sR, inL_sL, inL_sD, nx_sI, nx_sR, nx_sL, nx_sD, kd_sI, kd_sR, kd_sL, kd_sD, ln_sI, ln_sR, ln_sL, ln_sD, ↓reduceIte, c8_n, c8_1, c8_2, c8_3, c8_4, Nat.reduceAdd, k3, q_zhas _ Lg g2 (show m ≤ k by omega), hm, decide_true, f4, a1, hz, in0, in1, z0, z1, e1, e2]
        · refine Or.inr ⟨(g', some (.inr (.inl (some f)))), fun Q => ?_, g1.trans f5, f6, by dsimp only; omega, by dsimp only; omega⟩
          rw [e_Mdl_hasArrived_8]
          simp only [↓e_Mdl_hasArrived_0, ↓e_Mdl_hasArrived_1, ↓e_Mdl_hasArrived_4, ↓e_Mdl_hasArrived_7, ↓e_Mdl_hasArrived_9, ↓e_Mdl_hasArrived_14, ↓e_Mdl_hasArrived_17, ↓e_Mdl_hasArrived_18, ↓e_Mdl_hasArrived_23, ↓e_Mdl_hasArrived_26, ↓e_Mdl_hasArrived_28, ↓e_Mdl_hasArrived_30, ↓e_Mdl_hasArrived_31, ↓e_Mdl_hasArrived_32, ↓e_Mdl_hasArrived_33, ↓e_Mdl_hasArrived_36, ↓e_Mdl_hasArrived_38, ↓e_Mdl_hasArrived_39, ↓e_Mdl_hasArrived_40, ↓e_Mdl_hasArrived_41, ↓e_Mdl_hasArrived_44, ↓e_Mdl_hasArrived_45, ↓e_Mdl_hasArrived_46, ↓e_Mdl_hasArrived_49, ↓e_Mdl_hasArrived_50, not_true_eq_false, not_false_eq_true, one0, true_or, or_true, eq_self, bI_z, bI_nz, bI_o, b_ft, bI_1, bI_0, ↓kC_l, ↓kC_r, Option.toList_some, Option.toList_none, List.cons_append, List.nil_append, s1_0, s1_1i, s1_1r, s1_1w, s1_1n, s1_s, s2_0, s2_1i, s2_1r, s2_1w, s2_1n, s2_s, gI_sI, gI_sR, gI_sL, gI_sD, gR_sI, gR_sR, gR_sL, gR_sD, gL_sI, gL_sR, gL_sL, gL_sD, gD_sI, gD_sR, gD_sL, gD_sD, isK_sI, isK_sR, isK_sL, isK_sD, inL_sI, inL_sR, inL_sL, inL_sD, nx_sI, nx_sR, nx_sL, nx_sD, kd_sI, kd_sR, kd_sL, kd_sD, ln_sI, ln_sR, ln_sL, ln_sD, ↓reduceIte, c8_n, c8_1, c8_2, c8_3, c8_4, Nat.reduceAdd, k3, q_zhas _ Lg g2 (show m ≤ k by omega), hm, decide_true, f4, a1, hz, in0, in1, z0, z1, e1, e2]
      · refine Or.inr ⟨(g', some (.inr (.inl (some f)))), fun Q => ?_, g1.trans f5, f6, by dsimp only; omega, by dsimp only; omega⟩
        rw [e_Mdl_hasArrived_8]
        simp only [↓e_Mdl_hasArrived_0, ↓e_Mdl_hasArrived_1, ↓e_Mdl_hasArrived_4, ↓e_Mdl_hasArrived_7, ↓e_Mdl_hasArrived_9, ↓e_Mdl_hasArrived_14, ↓e_Mdl_hasArrived_17, ↓e_Mdl_hasArrived_18, ↓e_Mdl_hasArrived_23, ↓e_Mdl_hasArrived_26, ↓e_Mdl_hasArrived_28, ↓e_Mdl_hasArrived_30, ↓e_Mdl_hasArrived_31, ↓e_Mdl_hasArrived_32, ↓e_Mdl_hasArrived_33, ↓e_Mdl_hasArrived_36, ↓e_Mdl_hasArrived_38, ↓e_Mdl_hasArrived_39, ↓e_Mdl_hasArrived_40, ↓e_Mdl_hasArrived_41, ↓e_Mdl_hasArrived_44, ↓e_Mdl_hasArrived_45, ↓e_Mdl_hasArrived_46, ↓e_Mdl_hasArrived_49, ↓e_Mdl_hasArrived_50, not_true_eq_false, not_false_eq_true, one0, true_or, or_true, eq_self, bI_z, bI_nz, bI_o, b_ft, bI_1, bI_0, ↓kC_l, ↓kC_r, Option.toList_some, Option.toList_none, List.cons_append, List.nil_append, s1_0, s1_1i, s1_1r, s1_1w, s1_1n, s1_s, s2_0, s2_1i, s2_1r, s2_1w, s2_1n, s2_s, gI_sI, gI_sR, gI_sL, gI_sD, gR_sI, gR_sR, gR_sL, gR_sD, gL_sI, gL_sR, gL_sL, gL_sD, gD_sI, gD_sR, gD_sL, gD_sD, isK_sI, isK_sR, isK_sL, isK_sD, inL_sI, inL_sR, inL_sL, inL_sD, nx_sI, nx_sR, nx_sL, nx_sD, kd_sI, kd_sR, kd_sL, kd_sD, ln_sI, ln_sR, ln_sL, ln_sD, ↓reduceIte, c8_n, c8_1, c8_2, c8_3, c8_4, Nat.reduceAdd, k3, q_zhas _ Lg g2 (show m ≤ k by omega), hm, decide_true, f4, a1, hz, in0, in1, z0, z1, e1])
    (fun a hI => by
      obtain ⟨g, v4⟩ := a
      dsimp only at hI ⊢
      obtain ⟨g1, g2, g3, g4⟩ := hI
      have Lg := L.sw g1.sw hl (by omega)
      have k3 := g2.1
      refine ⟨_, g, fun Q => ?_, false, rfl, g1, g3, g4⟩
      rw [e_Mdl_hasArrived_8]
      simp only [↓e_Mdl_hasArrived_0, ↓e_Mdl_hasArrived_1, ↓e_Mdl_hasArrived_4, ↓e_Mdl_hasArrived_7, ↓e_Mdl_hasArrived_9, ↓e_Mdl_hasArrived_14, ↓e_Mdl_hasArrived_17, ↓e_Mdl_hasArrived_18, ↓e_Mdl_hasArrived_23, ↓e_Mdl_hasArrived_26, ↓e_Mdl_hasArrived_28, ↓e_Mdl_hasArrived_30, ↓e_Mdl_hasArrived_31, ↓e_Mdl_hasArrived_32, ↓e_Mdl_hasArrived_33, ↓e_Mdl_hasArrived_36, ↓e_Mdl_hasArrived_38, ↓e_Mdl_hasArrived_39, ↓e_Mdl_hasArrived_40, ↓e_Mdl_hasArrived_41, ↓e_Mdl_hasArrived_44, ↓e_Mdl_hasArrived_45, ↓e_Mdl_hasArrived_46, ↓e_Mdl_hasArrived_49, ↓e_Mdl_hasArrived_50, not_true_eq_false, not_false_eq_true, one0, true_or, or_true, eq_self, bI_z, bI_nz, bI_o, b_ft, bI_1, bI_0, ↓kC_l, ↓kC_r, Option.toList_some, Option.toList_none, List.cons_append, List.nil_append, s1_0, s1_1i, s1_1r, s1_1w, s1_1n, s1_s, s2_0, s2_1i, s2_1r, s2_1w, s2_1n, s2_s, gI_sI, gI_sR, gI_sL, gI_sD, gR_sI, gR_sR, gR_sL, gR_sD, gL_sI, gL_sR, gL_sL, gL_sD, gD_sI, gD_sR, gD_sL, gD_sD, isK_sI, isK_sR, isK_sL, isK_sD, inL_sI, inL_sR, inL_sL, inL_sD, nx_sI, nx_sR, nx_sL, nx_sD, kd_sI, kd_sR, kd_sL, kd_sD, ln_sI, ln_sR, ln_sL, ln_sD, ↓reduceIte, c8_n, c8_1, c8_2, c8_3, c8_4, Nat.reduceAdd, k3, q_zhas _ Lg g2 (Nat.le_refl k), Nat.lt_irrefl, decide_false, bI_0]) k 0 (h1, none) (by omega) ⟨i2, i3, i4, i5⟩
  refine ⟨b, h', fun Q => ?_, r3, r4, r5⟩
  rw [← r1 Q]
  simp only [↓e_Mdl_hasArrived_0, ↓e_Mdl_hasArrived_1, ↓e_Mdl_hasArrived_4, ↓e_Mdl_hasArrived_7, ↓e_Mdl_hasArrived_9, ↓e_Mdl_hasArrived_14, ↓e_Mdl_hasArrived_17, ↓e_Mdl_hasArrived_18, ↓e_Mdl_hasArrived_23, ↓e_Mdl_hasArrived_26, ↓e_Mdl_hasArrived_28, ↓e_Mdl_hasArrived_30, ↓e_Mdl_hasArrived_31, ↓e_Mdl_hasArrived_32, ↓e_Mdl_hasArrived_33, ↓e_Mdl_hasArrived_36, ↓e_Mdl_hasArrived_38, ↓e_Mdl_hasArrived_39, ↓e_Mdl_hasArrived_40, ↓e_Mdl_hasArrived_41, ↓e_Mdl_hasArrived_44, ↓e_Mdl_hasArrived_45, ↓e_Mdl_hasArrived_46, ↓e_Mdl_hasArrived_49, ↓e_Mdl_hasArrived_50, not_true_eq_false, not_false_eq_true, one0, true_or, or_true, eq_self, bI_z, bI_nz, bI_o, b_ft, bI_1, bI_0, ↓kC_l, ↓kC_r, Option.toList_some, Option.toList_none, List.cons_append, List.nil_append, s1_0, s1_1i, s1_1r, s1_1w, s1_1n, s1_s, s2_0, s2_1i, s2_1r, s2_1w, s2_1n, s2_s, gI_sI, gI_sR, gI_sL, gI_sD, gR_sI, gR_sR, gR_sL, gR_sD, gL_sI, gL_sR, gL_sL, gL_sD, gD_sI, gD_sR, gD_sL, gD_sD, isK_sI, isK_sR, isK_sL, isK_sD, inL_sI, inL_sR, inL_sL, inL_sD, nx_sI, nx_sR, nx_sL, nx_sD, kd_sI, kd_sR, kd_sL, kd_sD, ln_sI, ln_sR, ln_sL, ln_sD, ↓reduceIte, c8_n, c8_1, c8_2, c8_3, c8_4, Nat.reduceAdd, R.k, R.r10, R.k123, i1]
theorem q_mdraw (R : RM τ n p A c B K h) (x : Int32) : ∃ l v : Int32, ∀ Q, WP Gm j_Mdl_draw 0 [some (.inr (.inl (some 121))), some (.inl x)] [] h Q = Q (.inl (some (.inl v))) (sI h 121 2 l) := by
  generalize hl : (109 * gI h 121 2 + 57) - (109 * gI h 121 2 + 57) / 512 * 512 = l
  refine ⟨l, l * x / 512, fun Q => ?_⟩
  have e1 : ¬ (512 : Int32) = 0 := by decide
  simp only [↓e_Mdl_draw_0, ↓e_Mdl_draw_1, ↓e_Mdl_draw_3, ↓e_Mdl_draw_4, ↓e_Mdl_draw_7, ↓e_Mdl_draw_8, ↓e_Mdl_draw_10, ↓e_Mdl_draw_11, ↓e_Mdl_draw_14, ↓e_Mdl_draw_15, ↓e_Mdl_draw_18, ↓e_Mdl_draw_19, ↓e_Mdl_draw_22, ↓e_Mdl_draw_23, ↓e_Mdl_draw_24, ↓e_Mdl_draw_27, ↓e_Mdl_draw_28, not_true_eq_false, not_false_eq_true, one0, true_or, or_true, eq_self, bI_z, bI_nz, bI_o, b_ft, bI_1, bI_0, ↓kC_l, ↓kC_r, Option.toList_some, Option.toList_none, List.cons_append, List.nil_append, s1_0, s1_1i, s1_1r, s1_1w, s1_1n, s1_s, s2_0, s2_1i, s2_1r, s2_1w, s2_1n, s2_s, gI_sI, gI_sR, gI_sL, gI_sD, gR_sI, gR_sR, gR_sL, gR_sD, gL_sI, gL_sR, gL_sL, gL_sD, gD_sI, gD_sR, gD_sL, gD_sD, isK_sI, isK_sR, isK_sL, isK_sD, inL_sI, inL_sR, inL_sL, inL_sD, nx_sI, nx_sR, nx_sL, nx_sD, kd_sI, kd_sR, kd_sL, kd_sD, ln_sI, ln_sR, ln_sL, ln_sD, ↓reduceIte, c8_n, c8_1, c8_2, c8_3, c8_4, Nat.reduceAdd, R.k, e1, hl, Nat.reduceEqDiff, and_false, and_self]
/-- the roles that a drop touches -/
def Sdr (i s : Nat) : Prop := s = 1 ∨ s = 2 ∨ s = 16 + 8 * i ∨ s = 17 + 8 * i ∨ s = 20 + 8 * i
theorem RM.rmv {i : Nat} (R : RM τ n p A c B K h) (hi : i < n) (hl : ¬ 0 < gI h (p i) 7) (hq : ¬ gI h (p i + 1) 2 = 0) : ∃ v g, (∀ Q, WP Gm j_ArrayList_remove 0 [some (.inr (.inl (some (p i + 1)))), some (.inl 0), none, none] [] h Q = Q (.inl (some (.inr (.inl v)))) g) ∧ RM τ n p A c B K g ∧ Ext τ h τ g ∧ Ag τ (fun s => s = 1 ∨ s = 17 + 8 * i ∨ s = 20 + 8 * i) h g ∧ nx g = nx h ∧ sc g = sc h := by
  obtain ⟨N1, -, ⟨k, c0, k1, c1, L⟩, -⟩ := R.nd hi
  have F := R.F
  have hs := L.s
  have hk : 1 ≤ k := by
    rcases Nat.eq_zero_or_pos k with e | e
    · rw [e] at hs
      exact absurd hs hq
    · exact e
  have t1 := N1.1.2.1
  obtain ⟨v, g, g1, X, G, L', n', s'⟩ := q_zremove L hk
  have G' : Ag τ (fun s => s = 1 ∨ s = 17 + 8 * i ∨ s = 20 + 8 * i) h g := G.mono fun s w => by rw [t1] at w; omega
  have F' : Fs τ g := F.same X.2
  refine ⟨v, g, g1, R.queue F' X G' (fun f h1 h2 => ?_) (fun f h1 h2 => ?_) (fun f h1 h2 => ?_) (fun _ => ⟨k - 1, c0, by omega, c1, L'⟩) (fun _ w => ?_), X, G', n', s'⟩
  · have := F.j h1
    omega
  · have := F.j h1
    omega
  · have := F.j h1
    omega
  · rw [(G' (p i) (by rw [N1.1.1]; omega) 7).1] at w
    exact absurd w hl
theorem q_mdrop {i : Nat} (R : RM τ n p A c B K h) (hi : i < n) (hl : ¬ 0 < gI h (p i) 7) (hq : ¬ gI h (p i + 1) 2 = 0) : ∃ h', (∀ Q, WP Gm j_Mdl_drop 0 [some (.inr (.inl (some 121))), some (.inr (.inl (some (p i))))] [] h Q = Q (.inl none) h') ∧ RM τ n p A c B K h' ∧ Ext τ h τ h' ∧ Ag τ (Sdr i) h h' ∧ (∀ k, k ≠ 6 → gI h' (p i) k = gI h (p i) k) ∧ nx h' = nx h ∧ sc h' = sc h := by
  obtain ⟨N1, -, ⟨k, c0, k1, c1, L⟩, -⟩ := R.nd hi
  obtain ⟨v, g, g1, R1, X, G, n', s'⟩ := R.rmv hi hl hq
  have tp := R.nt hi
  have sw : Sw τ g (sI (sI g (p i) 6 0) 121 5 (gI (sI g (p i) 6 0) 121 5 + 1)) := ((Sw.refl τ g).sI (by rw [tp]; unfold OW; omega)).sI (by rw [R.t1]; unfold OW; omega)
  have z0 : (0 : Int32).toNatClampNeg = 0 := by decide
  have hp0 : ¬ p i = 121 := fun e => by rw [e, R.t1] at tp; omega
  have d50 : ((5 : Nat) = 0) = False := eq_false (by decide)
  have d60 : ((6 : Nat) = 0) = False := eq_false (by decide)
  have X' : Ext τ h τ (sI (sI g (p i) 6 0) 121 5 (gI (sI g (p i) 6 0) 121 5 + 1)) := X.trans sw.1
  refine ⟨_, fun Q => ?_, R1.sw sw, X', ?_, fun j hj => ?_, n', s'⟩
  · simp only [↓e_Mdl_drop_0, ↓e_Mdl_drop_1, ↓e_Mdl_drop_4, ↓e_Mdl_drop_5, ↓e_Mdl_drop_8, ↓e_Mdl_drop_9, ↓e_Mdl_drop_10, ↓e_Mdl_drop_11, ↓e_Mdl_drop_14, ↓e_Mdl_drop_15, ↓e_Mdl_drop_16, ↓e_Mdl_drop_19, ↓e_Mdl_drop_20, ↓e_Mdl_drop_21, ↓e_Mdl_drop_24, not_true_eq_false, not_false_eq_true, one0, true_or, or_true, eq_self, bI_z, bI_nz, bI_o, b_ft, bI_1, bI_0, ↓kC_l, ↓kC_r, Option.toList_some, Option.toList_none, List.cons_append, List.nil_append, s1_0, s1_1i, s1_1r, s1_1w, s1_1n, s1_s, s2_0, s2_1i, s2_1r, s2_1w, s2_1n, s2_s, gI_sI, gI_sR, gI_sL, gI_sD, gR_sI, gR_sR, gR_sL, gR_sD, gL_sI, gL_sR, gL_sL, gL_sD, gD_sI, gD_sR, gD_sL, gD_sD, isK_sI, isK_sR, isK_sL, isK_sD, inL_sI, inL_sR, inL_sL, inL_sD, nx_sI, nx_sR, nx_sL, nx_sD, kd_sI, kd_sR, kd_sL, kd_sD, ln_sI, ln_sR, ln_sL, ln_sD, ↓reduceIte, c8_n, c8_1, c8_2, c8_3, c8_4, Nat.reduceAdd, R.nk hi, R.nz hi, N1.2.2.1.1, L.kd, g1, R1.nk hi, R1.k, d50, d60, and_false, and_self]
  · exact ((G.mono fun s w => by unfold Sdr; omega).sI (by rw [tp]; unfold Sdr; omega)).sI (by rw [R.t1]; unfold Sdr; omega)
  · rw [gI_sI, if_neg (fun w => hp0 w.1), gI_sI, if_neg (fun w => hj w.2), (G (p i) (by rw [tp]; omega) j).1]
theorem q_mbegin {i : Nat} (R : RM τ n p A c B K h) (hi : i < n) (hl : ¬ 0 < gI h (p i) 7) (hq : ¬ gI h (p i + 1) 2 = 0) : ∃ h', (∀ Q, WP Gm j_Mdl_begin 0 [some (.inr (.inl (some 121))), some (.inr (.inl (some (p i)))), none] [] h Q = Q (.inl none) h') ∧ RM τ n p A c B K h' ∧ Ext τ h τ h' ∧ Ag τ (Sdr i) h h' ∧ gI h' (p i) 11 = gI h (p i) 11 ∧ nx h' = nx h ∧ sc h' = sc h := by
  have hn := R.n8
  obtain ⟨N1, N2, ⟨k, c0, k1, c1, L⟩, -, N5⟩ := R.nd hi
  have tp := R.nt hi
  have hs := L.s
  have hk : 0 < k := by
    rcases Nat.eq_zero_or_pos k with e | e
    · rw [e] at hs
      exact absurd hs hq
    · exact e
  by_cases hw : gI h (p i) 5 ≤ 0
  · obtain ⟨f, f1, f2, f3, f4⟩ := q_zget L hk
    obtain ⟨a1, a2, t, a3, a4⟩ := R.fr f3
    have fz := k_int R.F a1 (by omega)
    have in1 : inL h f 1 = true := inL_n (i := 1) (by omega) (by omega)
    have z1 : (1 : Int32).toNatClampNeg = 1 := by decide
    have z2 : (2 : Int32).toNatClampNeg = 2 := by decide
    have inT : inL h (p i + 3) (ii t) = true := inL_n (by omega) (by rw [N1.2.2.2.2.2]; omega)
    have f4' : ∀ Q, WP Gm j_ArrayList_get 0 [some (.inr (.inl (some (p i + 1)))), some (.inl 0)] [] h Q = Q (.inl (some (.inr (.inl (some f))))) h := f4
    have pre : ∀ Q, WP Gm j_Mdl_begin 0 [some (.inr (.inl (some 121))), some (.inr (.inl (some (p i)))), none] [] h Q = WP Gm j_Mdl_begin 37 [some (.inr (.inl (some 121))), some (.inr (.inl (some (p i)))), some (.inl (gI h (p i + 3) t))] [] h Q := by
      intro Q
      simp only [↓e_Mdl_begin_0, ↓e_Mdl_begin_1, ↓e_Mdl_begin_4, ↓e_Mdl_begin_7, ↓e_Mdl_begin_8, ↓e_Mdl_begin_9, ↓e_Mdl_begin_12, ↓e_Mdl_begin_13, ↓e_Mdl_begin_14, ↓e_Mdl_begin_17, ↓e_Mdl_begin_18, ↓e_Mdl_begin_19, ↓e_Mdl_begin_22, ↓e_Mdl_begin_23, ↓e_Mdl_begin_26, ↓e_Mdl_begin_27, ↓e_Mdl_begin_30, ↓e_Mdl_begin_33, ↓e_Mdl_begin_34, ↓e_Mdl_begin_35, ↓e_Mdl_begin_36, ↓e_Mdl_begin_38, ↓e_Mdl_begin_39, ↓e_Mdl_begin_42, ↓e_Mdl_begin_43, ↓e_Mdl_begin_44, ↓e_Mdl_begin_47, ↓e_Mdl_begin_48, ↓e_Mdl_begin_49, ↓e_Mdl_begin_50, ↓e_Mdl_begin_53, ↓e_Mdl_begin_54, ↓e_Mdl_begin_55, ↓e_Mdl_begin_58, ↓e_Mdl_begin_59, ↓e_Mdl_begin_62, ↓e_Mdl_begin_65, ↓e_Mdl_begin_66, ↓e_Mdl_begin_67, ↓e_Mdl_begin_70, ↓e_Mdl_begin_71, ↓e_Mdl_begin_72, ↓e_Mdl_begin_75, ↓e_Mdl_begin_76, ↓e_Mdl_begin_77, ↓e_Mdl_begin_80, ↓e_Mdl_begin_83, ↓e_Mdl_begin_84, ↓e_Mdl_begin_85, ↓e_Mdl_begin_88, ↓e_Mdl_begin_89, ↓e_Mdl_begin_90, ↓e_Mdl_begin_93, not_true_eq_false, not_false_eq_true, one0, true_or, or_true, eq_self, bI_z, bI_nz, bI_o, b_ft, bI_1, bI_0, ↓kC_l, ↓kC_r, Option.toList_some, Option.toList_none, List.cons_append, List.nil_append, s1_0, s1_1i, s1_1r, s1_1w, s1_1n, s1_s, s2_0, s2_1i, s2_1r, s2_1w, s2_1n, s2_s, gI_sI, gI_sR, gI_sL, gI_sD, gR_sI, gR_sR, gR_sL, gR_sD, gL_sI, gL_sR, gL_sL, gL_sD, gD_sI, gD_sR, gD_sL, gD_sD, isK_sI, isK_sR, isK_sL, isK_sD, inL_sI, inL_sR, inL_sL, inL_sD, nx_sI, nx_sR, nx_sL, nx_sD, kd_sI, kd_sR, kd_sL, kd_sD, ln_sI, ln_sR, ln_sL, ln_sD, ↓reduceIte, c8_n, c8_1, c8_2, c8_3, c8_4, Nat.reduceAdd, R.nk hi, R.nz hi, hw, N1.2.2.1.1, N1.2.2.1.2.2, L.kd, f4', a1, fz, in1, z1, a4, inT, N1.2.2.2.2.1, ii_nat (show t < 2147483648 by omega)]
    rcases N2 t (by omega) with e | ⟨r, r1, r2⟩
    · obtain ⟨h', b1, b2, b3, b4, b5, b6, b7⟩ := q_mdrop R hi hl hq
      refine ⟨h', fun Q => ?_, b2, b3, b4, b5 _ (by omega), b6, b7⟩
      rw [pre, e]
      simp only [↓e_Mdl_begin_0, ↓e_Mdl_begin_1, ↓e_Mdl_begin_4, ↓e_Mdl_begin_7, ↓e_Mdl_begin_8, ↓e_Mdl_begin_9, ↓e_Mdl_begin_12, ↓e_Mdl_begin_13, ↓e_Mdl_begin_14, ↓e_Mdl_begin_17, ↓e_Mdl_begin_18, ↓e_Mdl_begin_19, ↓e_Mdl_begin_22, ↓e_Mdl_begin_23, ↓e_Mdl_begin_26, ↓e_Mdl_begin_27, ↓e_Mdl_begin_30, ↓e_Mdl_begin_33, ↓e_Mdl_begin_34, ↓e_Mdl_begin_35, ↓e_Mdl_begin_36, ↓e_Mdl_begin_37, ↓e_Mdl_begin_38, ↓e_Mdl_begin_39, ↓e_Mdl_begin_42, ↓e_Mdl_begin_43, ↓e_Mdl_begin_44, ↓e_Mdl_begin_47, ↓e_Mdl_begin_48, ↓e_Mdl_begin_49, ↓e_Mdl_begin_50, ↓e_Mdl_begin_53, ↓e_Mdl_begin_54, ↓e_Mdl_begin_55, ↓e_Mdl_begin_58, ↓e_Mdl_begin_59, ↓e_Mdl_begin_62, ↓e_Mdl_begin_65, ↓e_Mdl_begin_66, ↓e_Mdl_begin_67, ↓e_Mdl_begin_70, ↓e_Mdl_begin_71, ↓e_Mdl_begin_72, ↓e_Mdl_begin_75, ↓e_Mdl_begin_76, ↓e_Mdl_begin_77, ↓e_Mdl_begin_80, ↓e_Mdl_begin_83, ↓e_Mdl_begin_84, ↓e_Mdl_begin_85, ↓e_Mdl_begin_88, ↓e_Mdl_begin_89, ↓e_Mdl_begin_90, ↓e_Mdl_begin_93, not_true_eq_false, not_false_eq_true, one0, true_or, or_true, eq_self, bI_z, bI_nz, bI_o, b_ft, bI_1, bI_0, ↓kC_l, ↓kC_r, Option.toList_some, Option.toList_none, List.cons_append, List.nil_append, s1_0, s1_1i, s1_1r, s1_1w, s1_1n, s1_s, s2_0, s2_1i, s2_1r, s2_1w, s2_1n, s2_s, gI_sI, gI_sR, gI_sL, gI_sD, gR_sI, gR_sR, gR_sL, gR_sD, gL_sI, gL_sR, gL_sL, gL_sD, gD_sI, gD_sR, gD_sL, gD_sD, isK_sI, isK_sR, isK_sL, isK_sD, inL_sI, inL_sR, inL_sL, inL_sD, nx_sI, nx_sR, nx_sL, nx_sD, kd_sI, kd_sR, kd_sL, kd_sD, ln_sI, ln_sR, ln_sL, ln_sD, ↓reduceIte, c8_n, c8_1, c8_2, c8_3, c8_4, Nat.reduceAdd, R.nk hi, R.nz hi, R.k, b1]
    · have hr1 : (ii r = -1) = False := eq_false (by
        have : ∀ r, r < 8 → ¬ ii r = -1 := by decide
        exact this r (by omega))
      generalize hg : sI h (p i) 8 (ii r) = g
      have Xg : Ext τ h τ g := by rw [← hg]; exact Ext.refl τ h
      have Gg : Ag τ (fun s => s = 1 ∨ s = 16 + 8 * i) h g := by rw [← hg]; exact (Ag.refl _ h).sI (Or.inr tp)
      have Lg : Lst τ g (p i + 1) (20 + 8 * i) (fun _ f => τ f = 9) k c0 := L.fr Xg Gg (by rw [N1.1.2.1]; omega) (by omega) (fun _ _ _ w => w)
      obtain ⟨f', y1, y2, y3, y4⟩ := q_zget Lg hk
      have ef : f' = f := by
        rw [← hg] at y1
        have := y1.symm.trans f1
        exact Option.some.inj this
      subst ef
      have y4' : ∀ Q, WP Gm j_ArrayList_get 0 [some (.inr (.inl (some (p i + 1)))), some (.inl 0)] [] g Q = Q (.inl (some (.inr (.inl (some f'))))) g := y4
      have gk : isK g (p i) kc_MNode = true := Xg.k (R.nk hi)
      have gr : gR g (p i) 4 = some (p i + 1) := by rw [← hg]; exact N1.2.2.1.1
      have ga1 : isK g f' 100 = true := Xg.k a1
      have in2 : inL g f' 2 = true := inL_n (i := 2) (by omega) (by rw [Xg.l a1]; omega)
      have hp0 : (121 = p i) = False := eq_false (fun e => by rw [← e, R.t1] at tp; omega)
      have gs : gI g 121 1 = ii B := by rw [← hg, gI_sI, if_neg (fun w => by rw [hp0] at w; exact w.1)]; exact R.sl
      have gk1 : isK g 121 kc_Mdl = true := Xg.k R.k
      generalize hu : sI (sI (sI (sI g (p i) 7 (gI g f' 2)) (p i) 9 1) (p i) 10 (ii B)) (p i) 12 (gI h (p i) 12 + 1) = u
      have Xu : Ext τ h τ u := by rw [← hu, ← hg]; exact Ext.refl τ h
      have Gu : Ag τ (fun s => s = 1 ∨ s = 16 + 8 * i) h u := by rw [← hu]; exact (((Gg.sI (Or.inr tp)).sI (Or.inr tp)).sI (Or.inr tp)).sI (Or.inr tp)
      have u11 : gI u (p i) 11 = gI h (p i) 11 := by
        rw [← hu, ← hg]
        simp only [gI_sI, Nat.reduceEqDiff, and_false, ↓reduceIte]
      have uq : gI u (p i + 1) 2 = gI h (p i + 1) 2 := (Gu _ (by rw [N1.1.2.1]; omega) 2).1
      refine ⟨u, fun Q => ?_, R.node Xu Gu (fun j => by rw [← hu, ← hg]; rfl) (fun _ _ => ⟨⟨r, r1, ?_⟩, by rw [uq]; exact hq⟩) (fun _ => ?_), Xu, Gu.mono fun s w => by unfold Sdr; omega, u11, by rw [← hu, ← hg]; rfl, by rw [← hu, ← hg]; rfl⟩
      · rw [pre, r2]
        have g12 : gI g (p i) 12 = gI h (p i) 12 := by
          rw [← hg]
          simp only [gI_sI, Nat.reduceEqDiff, and_false, ↓reduceIte]
        simp only [↓e_Mdl_begin_0, ↓e_Mdl_begin_1, ↓e_Mdl_begin_4, ↓e_Mdl_begin_7, ↓e_Mdl_begin_8, ↓e_Mdl_begin_9, ↓e_Mdl_begin_12, ↓e_Mdl_begin_13, ↓e_Mdl_begin_14, ↓e_Mdl_begin_17, ↓e_Mdl_begin_18, ↓e_Mdl_begin_19, ↓e_Mdl_begin_22, ↓e_Mdl_begin_23, ↓e_Mdl_begin_26, ↓e_Mdl_begin_27, ↓e_Mdl_begin_30, ↓e_Mdl_begin_33, ↓e_Mdl_begin_34, ↓e_Mdl_begin_35, ↓e_Mdl_begin_36, ↓e_Mdl_begin_37, ↓e_Mdl_begin_38, ↓e_Mdl_begin_39, ↓e_Mdl_begin_42, ↓e_Mdl_begin_43, ↓e_Mdl_begin_44, ↓e_Mdl_begin_47, ↓e_Mdl_begin_48, ↓e_Mdl_begin_49, ↓e_Mdl_begin_50, ↓e_Mdl_begin_53, ↓e_Mdl_begin_54, ↓e_Mdl_begin_55, ↓e_Mdl_begin_58, ↓e_Mdl_begin_59, ↓e_Mdl_begin_62, ↓e_Mdl_begin_65, ↓e_Mdl_begin_66, ↓e_Mdl_begin_67, ↓e_Mdl_begin_70, ↓e_Mdl_begin_71, ↓e_Mdl_begin_72, ↓e_Mdl_begin_75, ↓e_Mdl_begin_76, ↓e_Mdl_begin_77, ↓e_Mdl_begin_80, ↓e_Mdl_begin_83, ↓e_Mdl_begin_84, ↓e_Mdl_begin_85, ↓e_Mdl_begin_88, ↓e_Mdl_begin_89, ↓e_Mdl_begin_90, ↓e_Mdl_begin_93, not_true_eq_false, not_false_eq_true, one0, true_or, or_true, eq_self, bI_z, bI_nz, bI_o, b_ft, bI_1, bI_0, ↓kC_l, ↓kC_r, Option.toList_some, Option.toList_none, List.cons_append, List.nil_append, s1_0, s1_1i, s1_1r, s1_1w, s1_1n, s1_s, s2_0, s2_1i, s2_1r, s2_1w, s2_1n, s2_s, gI_sI, gI_sR, gI_sL, gI_sD, gR_sI, gR_sR, gR_sL, gR_sD, gL_sI, gL_sR, gL_sL, gL_sD, gD_sI, gD_sR, gD_sL, gD_sD, isK_sI, isK_sR, isK_sL, isK_sD, inL_sI, inL_sR, inL_sL, inL_sD, nx_sI, nx_sR, nx_sL, nx_sD, kd_sI, kd_sR, kd_sL, kd_sD, ln_sI, ln_sR, ln_sL, ln_sD, ↓reduceIte, c8_n, c8_1, c8_2, c8_3, c8_4, Nat.reduceAdd, R.nk hi, R.nz hi, hr1, hg, gk, gr, Lg.kd, y4', ga1, fz, in2, z2, hp0, gk1, gs, g12, false_and, Nat.reduceEqDiff, and_false, and_self, hu, or_true, true_or]
      · rw [← hu, ← hg]
        simp only [gI_sI, Nat.reduceEqDiff, and_false, and_self, ↓reduceIte]
      · obtain ⟨a, a5, a6⟩ := N5
        exact ⟨a, a5, by rw [u11]; exact a6⟩
  · have sw : Sw τ h (sI h (p i) 5 (gI h (p i) 5 - 1)) := (Sw.refl τ h).sI (by rw [tp]; unfold OW; omega)
    refine ⟨_, fun Q => ?_, R.sw sw, sw.1, (Ag.refl _ h).sI (by rw [tp]; unfold Sdr; omega), ?_, rfl, rfl⟩
    · simp only [↓e_Mdl_begin_0, ↓e_Mdl_begin_1, ↓e_Mdl_begin_4, ↓e_Mdl_begin_7, ↓e_Mdl_begin_8, ↓e_Mdl_begin_9, ↓e_Mdl_begin_12, ↓e_Mdl_begin_13, ↓e_Mdl_begin_14, ↓e_Mdl_begin_17, ↓e_Mdl_begin_18, ↓e_Mdl_begin_19, ↓e_Mdl_begin_22, ↓e_Mdl_begin_23, ↓e_Mdl_begin_26, ↓e_Mdl_begin_27, ↓e_Mdl_begin_30, ↓e_Mdl_begin_33, ↓e_Mdl_begin_34, ↓e_Mdl_begin_35, ↓e_Mdl_begin_36, ↓e_Mdl_begin_37, ↓e_Mdl_begin_38, ↓e_Mdl_begin_39, ↓e_Mdl_begin_42, ↓e_Mdl_begin_43, ↓e_Mdl_begin_44, ↓e_Mdl_begin_47, ↓e_Mdl_begin_48, ↓e_Mdl_begin_49, ↓e_Mdl_begin_50, ↓e_Mdl_begin_53, ↓e_Mdl_begin_54, ↓e_Mdl_begin_55, ↓e_Mdl_begin_58, ↓e_Mdl_begin_59, ↓e_Mdl_begin_62, ↓e_Mdl_begin_65, ↓e_Mdl_begin_66, ↓e_Mdl_begin_67, ↓e_Mdl_begin_70, ↓e_Mdl_begin_71, ↓e_Mdl_begin_72, ↓e_Mdl_begin_75, ↓e_Mdl_begin_76, ↓e_Mdl_begin_77, ↓e_Mdl_begin_80, ↓e_Mdl_begin_83, ↓e_Mdl_begin_84, ↓e_Mdl_begin_85, ↓e_Mdl_begin_88, ↓e_Mdl_begin_89, ↓e_Mdl_begin_90, ↓e_Mdl_begin_93, not_true_eq_false, not_false_eq_true, one0, true_or, or_true, eq_self, bI_z, bI_nz, bI_o, b_ft, bI_1, bI_0, ↓kC_l, ↓kC_r, Option.toList_some, Option.toList_none, List.cons_append, List.nil_append, s1_0, s1_1i, s1_1r, s1_1w, s1_1n, s1_s, s2_0, s2_1i, s2_1r, s2_1w, s2_1n, s2_s, gI_sI, gI_sR, gI_sL, gI_sD, gR_sI, gR_sR, gR_sL, gR_sD, gL_sI, gL_sR, gL_sL, gL_sD, gD_sI, gD_sR, gD_sL, gD_sD, isK_sI, isK_sR, isK_sL, isK_sD, inL_sI, inL_sR, inL_sL, inL_sD, nx_sI, nx_sR, nx_sL, nx_sD, kd_sI, kd_sR, kd_sL, kd_sD, ln_sI, ln_sR, ln_sL, ln_sD, ↓reduceIte, c8_n, c8_1, c8_2, c8_3, c8_4, Nat.reduceAdd, R.nk hi, R.nz hi, hw, Nat.reduceEqDiff, and_false, and_self]
    · simp only [gI_sI, Nat.reduceEqDiff, and_false, ↓reduceIte]
end MST
