/-! xmk4: the calls of the market on both sides, in numbers -/
section XM4
variable {τ τ' : Nat → Nat} {n A c B m T : Nat} {K : Int32} {p b9 x9 p9 : Nat → Nat} {h h' : Hp} {S : Nat → Prop}
theorem det {j : Nat} {ls : Lo} {r1 r2 : MRes} {h1 h2 : Hp} (e1 : ∀ Q, WP Gm j 0 ls [] h Q = Q r1 h1) (e2 : ∀ Q, WP Gm j 0 ls [] h Q = Q r2 h2) : r1 = r2 ∧ h1 = h2 := by
  have q1 := e1 (fun r g => r = r1 ∧ g = h1)
  rw [e2] at q1
  have := q1.mpr ⟨rfl, rfl⟩
  exact ⟨this.1.symm, this.2.symm⟩
def okB (b9 x9 p9 : Nat → Nat) (k : Nat) : Prop := b9 k < 5 ∧ 1 ≤ x9 k ∧ x9 k < 64 ∧ 1 ≤ p9 k ∧ p9 k ≤ 999
/-- the reference's bids -/
def BB (τ : Nat → Nat) (b9 x9 p9 : Nat → Nat) (m : Nat) (h : Hp) : Prop := (m ≤ 10 ∧ ∀ k, k < m → okB b9 x9 p9 k) ∧ ∃ c, (c = 0 ∨ c = 10) ∧ Lst τ h 124 8 (fun j f => τ f = 11 ∧ gI h f 0 = ii (b9 j) ∧ gI h f 1 = ii (x9 j) ∧ gI h f 2 = ii (p9 j)) m c
theorem BB.fr (V : BB τ b9 x9 p9 m h) (F : Fs τ h) (X : Ext τ h τ' h') (G : Ag τ S h h') (h5 : ¬ S 5) (h8 : ¬ S 8) (h11 : ¬ S 11) : BB τ' b9 x9 p9 m h' := by
  obtain ⟨V1, c, c1, L⟩ := V
  exact ⟨V1, c, c1, L.fr X G (by rw [F.2.2.2.2.2.2]; exact h5) h8 fun j f hf q => by
    have hS : ¬ S (τ f) := by rw [q.1]; exact h11
    exact ⟨by rw [(X.1 f hf).1]; exact q.1, by rw [(G f hS 0).1]; exact q.2.1, by rw [(G f hS 1).1]; exact q.2.2.1, by rw [(G f hS 2).1]; exact q.2.2.2⟩⟩
theorem BB.noL (V : BB τ b9 x9 p9 m h) (g : Nat → Nat → Int64) : BB τ b9 x9 p9 m (h.1, h.2.1, g, h.2.2.2) := V
theorem BB.cls {lo : Nat} (V : BB τ b9 x9 p9 m h) (F : Fs τ h) (C : CCg lo n T h h') (hlo : lo ≤ 121 := by decide) : BB τ b9 x9 p9 m h' := by
  obtain ⟨-, -, -, c1, c2, c3, -, -⟩ := C
  have X : Ext τ h τ (h'.1, h'.2.1, h.2.2.1, h'.2.2.2) := ⟨fun x hx => ⟨rfl, c2 x hx⟩, c3⟩
  have G : Ag τ (fun s => s = 0 ∨ s = 1) h (h'.1, h'.2.1, h.2.2.1, h'.2.2.2) := fun z hz k => by
    have hlt : z < nx h := F.lt fun w => hz (Or.inr w)
    have h121 : 121 ≤ z := Nat.le_of_not_lt fun w => hz (Or.inl (F.2.2.1 z w))
    obtain ⟨a1, a2⟩ := c1 z k (Or.inr (Nat.le_trans hlo h121)) hlt
    exact ⟨a1, a2, rfl⟩
  have V1 : BB τ b9 x9 p9 m (h'.1, h'.2.1, h.2.2.1, h'.2.2.2) := V.fr F X G (by omega) (by omega) (by omega)
  exact V1.noL h'.2.2.1
theorem BB.jk (V : BB τ b9 x9 p9 m h) (F : Fs τ h) (J : Jk τ h h') : BB τ b9 x9 p9 m h' := V.fr F J.1 J.2 (by omega) (by omega) (by omega)
theorem BB.sw (V : BB τ b9 x9 p9 m h) (F : Fs τ h) (J : Sw τ h h') : BB τ b9 x9 p9 m h' := V.fr (S := S0) F J.1 J.s0 (by unfold S0; omega) (by unfold S0; omega) (by unfold S0; omega)
theorem BB.bv (V : BB τ b9 x9 p9 m h) (R : RM τ n p A c B K h) : BV9 b9 x9 p9 m h ∧ Bs h m := by
  obtain ⟨⟨V1, V2⟩, c0, c1, L⟩ := V
  obtain ⟨m', W⟩ := R.bs
  have e : m = m' := by
    have := L.s.symm.trans W.2.2.2.2.1
    have h1 := W.1
    rwa [ii_inj (by omega) (by omega)] at this
  subst e
  refine ⟨⟨V1, fun k hk => ?_⟩, W⟩
  obtain ⟨f, f1, f2, f3, f4⟩ := q_zget L hk
  have e : eb h k = f := by
    unfold eb
    rw [f1]
    rfl
  rw [e]
  exact ⟨V2 k hk, f3.2⟩
/-- after a call of the reference, with m bids -/
def MoB (τ : Nat → Nat) (n' c B : Nat) (K : Int32) (b9 x9 p9 : Nat → Nat) (m : Nat) (h h' : Hp) : Prop := ∃ τ' p' c' B', RM τ' n' p' (8 * B') c' B' K h' ∧ Ext τ h τ' h' ∧ Ag τ SM9 h h' ∧ (B ≤ B' ∧ nx h' + 33 * B ≤ nx h + 1000 + 33 * B' ∧ sc h' + 4 * c + 648 * B ≤ sc h + 7000 + 4 * c' + 648 * B') ∧ BB τ' b9 x9 p9 m h'
theorem MoB.of {n' : Nat} (M : Mo τ n' c B K h h') (V : BB τ b9 x9 p9 m h) (F : Fs τ h) : MoB τ n' c B K b9 x9 p9 m h h' := by
  obtain ⟨τ', p', c', B', R, X, G, r⟩ := M
  exact ⟨τ', p', c', B', R, X, G.mono fun s w => by unfold S0 at w; unfold SM9; omega, r, V.fr F X G (by unfold S0; omega) (by unfold S0; omega) (by unfold S0; omega)⟩
theorem MoB.g {n' : Nat} (M : MoB τ n' c B K b9 x9 p9 m h h') : Mog SM9 τ n' c B K h h' := by
  obtain ⟨τ', p', c', B', R, X, G, r, -⟩ := M
  exact ⟨τ', p', c', B', R, X, G, r⟩
/-- a bid's row joins the bids -/
theorem RM.bidAddX (R : RM τ n p A c B K h) (V : BB τ b9 x9 p9 m h) {g : Hp} (N : Nw τ h 3 g) (hv : gI g (nx h) 0 = ii (b9 m) ∧ gI g (nx h) 1 = ii (x9 m) ∧ gI g (nx h) 2 = ii (p9 m)) (hm : m < 10) (hb : okB b9 x9 p9 m) (hn : nx h + 10 ≤ 580300) (hs : sc h + 100 ≤ 5700000) :
    ∃ τ' h', (∀ Q, WP Gm j_ArrayList_add_LjavalangObjectZ 0 [some (.inr (.inl (some 124))), some (.inr (.inl (some (nx h))))] [] g Q = Q (.inl (some (.inl 1))) h') ∧ RM τ' n p A c B K h' ∧ BB τ' b9 x9 p9 (m + 1) h' ∧ Ext τ h τ' h' ∧ Ag τ (fun s => s = 1 ∨ s = 5 ∨ s = 8) h h' ∧ nx h' ≤ nx h + 2 ∧ sc h' ≤ sc h + 60 := by
  have F := R.F
  obtain ⟨n1, n2, n3, n4, Xg, Gg⟩ := id N
  have f125 := F.1
  have F1 : Fs (upr τ (nx h) 11) g := F.up 11 (by omega)
  have X1 : Ext τ h (upr τ (nx h) 11) g := ⟨fun z hz => ⟨upr_ne (by omega), (Xg.1 z hz).2.1, (Xg.1 z hz).2.2⟩, by omega⟩
  have V1 : BB (upr τ (nx h) 11) b9 x9 p9 m g := V.fr F X1 Gg (by omega) (by omega) (by omega)
  obtain ⟨⟨V3, V4⟩, c0, c1, L⟩ := V1
  have t4 : upr τ (nx h) 11 124 = 5 := F1.2.2.2.2.2.2
  have hkc : c0 = 0 ∨ m < c0 := by omega
  obtain ⟨τ', u, u1, Xu, u3, Fu, Gu, ⟨c', c2, Lu⟩, nu, su⟩ := q_zadd F1 L hkc (by omega) (by omega) (N.any F) ⟨upr_eq, hv⟩ (by omega)
  have Xt := X1.trans Xu
  have Gt : Ag τ (fun s => s = 1 ∨ s = 5 ∨ s = 8) h u := (Gg.mono fun s w => Or.inl w).trans F X1 (Or.inl rfl) (Gu.mono fun s w => by rw [t4] at w; exact w)
  have role : ∀ f, nx h ≤ f → τ' f = 1 ∨ (f = nx h ∧ τ' f = 11) ∨ τ' f = 8 := fun f hf => by
    rcases u3 with rfl | rfl
    · exact new_role (q2 := nx h) (b := 11) F (Or.inl rfl) hf |>.imp id fun w => Or.inl (by
        rcases w with w | w
        · exact w
        · by_cases e : f = nx h
          · exact ⟨e, w⟩
          · rw [upr_ne e, F.j hf] at w; omega)
    · exact new_role (q2 := nx g) (b := 8) F (Or.inr rfl) hf
  have keep : isK u (nx h) 100 = true ∧ ln u (nx h) = 3 ∧ ∀ j, gI u (nx h) j = gI g (nx h) j := ⟨Xu.k n3, by rw [Xu.l n3]; exact n4, fun j => (Gu (nx h) (by rw [upr_eq, t4]; omega) j).1⟩
  have Vu : BB τ' b9 x9 p9 (m + 1) u := by
    refine ⟨⟨by omega, fun k hk => ?_⟩, c', by omega, Lu.mono fun j f _ q => ?_⟩
    · by_cases e : k = m
      · rw [e]; exact hb
      · exact V4 k (by omega)
    · have hf : f < nx g := F1.lt (by rw [q.1]; omega)
      have hS : ¬ (upr τ (nx h) 11 f = 1 ∨ upr τ (nx h) 11 f = upr τ (nx h) 11 124 ∨ upr τ (nx h) 11 f = 8) := by rw [q.1, t4]; omega
      exact ⟨by rw [(Xu.1 f hf).1]; exact q.1, by rw [(Gu f hS 0).1]; exact q.2.1, by rw [(Gu f hS 1).1]; exact q.2.2.1, by rw [(Gu f hS 2).1]; exact q.2.2.2⟩
  refine ⟨τ', u, u1, R.bids Fu Xt Gt (fun f hf => ?_) (fun f hf => ?_) (fun f hf w => ?_) ⟨m + 1, c', by omega, by omega, Lu.mono fun j f _ q => ?_⟩, Vu, Xt, Gt, by omega, by omega⟩
  · have := role f hf
    omega
  · have := role f hf
    omega
  · have := role f hf
    have e : f = nx h := by omega
    subst e
    exact ⟨keep.1, keep.2.1, b9 m, hb.1, by rw [keep.2.2]; exact hv.1⟩
  · have hf : f < nx g := F1.lt (by rw [q.1]; omega)
    rw [(Xu.1 f hf).1]
    exact q.1
def bidOK (x y z : Int32) : Bool := (decide (0 ≤ x) && decide (x ≤ 4)) && ((decide (1 ≤ y) && decide (y ≤ 63)) && (decide (1 ≤ z) && decide (z ≤ 999)))
theorem qx_mbid (R : RM τ n p (8 * B) c B K h) (V : BB τ b9 x9 p9 m h) (hn1 : nx h + 1000 ≤ 580300) (hs1 : sc h + 7000 ≤ 5700000) (x y z : Int32) :
    ∃ v h', (∀ Q, WP Gm j_Mdl_bid 0 [some (.inr (.inl (some 121))), some (.inl x), some (.inl y), some (.inl z)] [] h Q = Q (.inl (some (.inl v))) h') ∧
      ((bidOK x y z = false ∧ gI h' 121 0 = 1 ∧ MoB τ n c B K b9 x9 p9 m h h') ∨ (bidOK x y z = true ∧ m = 10 ∧ gI h' 121 0 = 2 ∧ MoB τ n c B K b9 x9 p9 m h h') ∨
        (bidOK x y z = true ∧ m < 10 ∧ gI h' 121 0 = 0 ∧ v = ii m ∧ ∀ b' x' p' : Nat → Nat, (∀ k, k < m → b' k = b9 k ∧ x' k = x9 k ∧ p' k = p9 k) → x = ii (b' m) → y = ii (x' m) → z = ii (p' m) → okB b' x' p' m → MoB τ n c B K b' x' p' (m + 1) h h')) := by
  have F := R.F
  have R0 : RM τ n p (8 * B) c B K (sI h 121 0 0) := R.th
  have ref : ∀ w, MoB τ n c B K b9 x9 p9 m h (sI (sI h 121 0 0) 121 0 w) := fun w => MoB.of (Mo.sw R (R.sth2 0 w) (by show nx h ≤ _; omega) (by show sc h ≤ _; omega)) V F
  have th : ∀ w : Int32, gI (sI (sI h 121 0 0) 121 0 w) 121 0 = w := fun w => by rw [gI_sI, if_pos ⟨rfl, rfl⟩]
  unfold bidOK
  cases e1 : (decide (0 ≤ x) && decide (x ≤ 4)) with
  | false =>
    refine ⟨0, sI (sI h 121 0 0) 121 0 1, fun Q => ?_, Or.inl ⟨rfl, th 1, ref 1⟩⟩
    simp only [↓e_Mdl_bid_0, ↓e_Mdl_bid_1, ↓e_Mdl_bid_2, ↓e_Mdl_bid_3, ↓e_Mdl_bid_4, ↓e_Mdl_bid_7, ↓e_Mdl_bid_10, ↓e_Mdl_bid_11, ↓e_Mdl_bid_12, ↓e_Mdl_bid_14, ↓e_Mdl_bid_17, ↓e_Mdl_bid_20, ↓e_Mdl_bid_21, ↓e_Mdl_bid_22, ↓e_Mdl_bid_25, ↓e_Mdl_bid_28, ↓e_Mdl_bid_31, ↓e_Mdl_bid_32, ↓e_Mdl_bid_35, ↓e_Mdl_bid_36, ↓e_Mdl_bid_37, ↓e_Mdl_bid_40, ↓e_Mdl_bid_43, ↓e_Mdl_bid_44, ↓e_Mdl_bid_45, ↓e_Mdl_bid_48, ↓e_Mdl_bid_51, ↓e_Mdl_bid_53, ↓e_Mdl_bid_56, ↓e_Mdl_bid_57, ↓e_Mdl_bid_60, ↓e_Mdl_bid_61, ↓e_Mdl_bid_62, ↓e_Mdl_bid_65, ↓e_Mdl_bid_68, ↓e_Mdl_bid_69, ↓e_Mdl_bid_70, ↓e_Mdl_bid_71, ↓e_Mdl_bid_74, ↓e_Mdl_bid_75, ↓e_Mdl_bid_77, ↓e_Mdl_bid_78, ↓e_Mdl_bid_79, ↓e_Mdl_bid_80, ↓e_Mdl_bid_81, ↓e_Mdl_bid_82, ↓e_Mdl_bid_83, ↓e_Mdl_bid_84, ↓e_Mdl_bid_85, ↓e_Mdl_bid_86, ↓e_Mdl_bid_87, ↓e_Mdl_bid_88, ↓e_Mdl_bid_89, ↓e_Mdl_bid_92, ↓e_Mdl_bid_93, ↓e_Mdl_bid_94, ↓e_Mdl_bid_97, ↓e_Mdl_bid_100, ↓e_Mdl_bid_101, ↓e_Mdl_bid_102, not_true_eq_false, not_false_eq_true, one0, true_or, or_true, eq_self, bI_z, bI_nz, bI_o, b_ft, bI_1, bI_0, ↓kC_l, ↓kC_r, Option.toList_some, Option.toList_none, List.cons_append, List.nil_append, s1_0, s1_1i, s1_1r, s1_1w, s1_1n, s1_s, s2_0, s2_1i, s2_1r, s2_1w, s2_1n, s2_s, gI_sI, gI_sR, gI_sL, gI_sD, gR_sI, gR_sR, gR_sL, gR_sD, gL_sI, gL_sR, gL_sL, gL_sD, gD_sI, gD_sR, gD_sL, gD_sD, isK_sI, isK_sR, isK_sL, isK_sD, inL_sI, inL_sR, inL_sL, inL_sD, nx_sI, nx_sR, nx_sL, nx_sD, kd_sI, kd_sR, kd_sL, kd_sD, ln_sI, ln_sR, ln_sL, ln_sD, ↓reduceIte, c8_n, c8_1, c8_2, c8_3, c8_4, Nat.reduceAdd, R.k, q_misIn, e1, q_stT _ R]
  | true =>
    cases e2 : (decide (1 ≤ y) && decide (y ≤ 63)) with
    | false =>
      refine ⟨0, sI (sI h 121 0 0) 121 0 1, fun Q => ?_, Or.inl ⟨rfl, th 1, ref 1⟩⟩
      simp only [↓e_Mdl_bid_0, ↓e_Mdl_bid_1, ↓e_Mdl_bid_2, ↓e_Mdl_bid_3, ↓e_Mdl_bid_4, ↓e_Mdl_bid_7, ↓e_Mdl_bid_10, ↓e_Mdl_bid_11, ↓e_Mdl_bid_12, ↓e_Mdl_bid_14, ↓e_Mdl_bid_17, ↓e_Mdl_bid_20, ↓e_Mdl_bid_21, ↓e_Mdl_bid_22, ↓e_Mdl_bid_25, ↓e_Mdl_bid_28, ↓e_Mdl_bid_31, ↓e_Mdl_bid_32, ↓e_Mdl_bid_35, ↓e_Mdl_bid_36, ↓e_Mdl_bid_37, ↓e_Mdl_bid_40, ↓e_Mdl_bid_43, ↓e_Mdl_bid_44, ↓e_Mdl_bid_45, ↓e_Mdl_bid_48, ↓e_Mdl_bid_51, ↓e_Mdl_bid_53, ↓e_Mdl_bid_56, ↓e_Mdl_bid_57, ↓e_Mdl_bid_60, ↓e_Mdl_bid_61, ↓e_Mdl_bid_62, ↓e_Mdl_bid_65, ↓e_Mdl_bid_68, ↓e_Mdl_bid_69, ↓e_Mdl_bid_70, ↓e_Mdl_bid_71, ↓e_Mdl_bid_74, ↓e_Mdl_bid_75, ↓e_Mdl_bid_77, ↓e_Mdl_bid_78, ↓e_Mdl_bid_79, ↓e_Mdl_bid_80, ↓e_Mdl_bid_81, ↓e_Mdl_bid_82, ↓e_Mdl_bid_83, ↓e_Mdl_bid_84, ↓e_Mdl_bid_85, ↓e_Mdl_bid_86, ↓e_Mdl_bid_87, ↓e_Mdl_bid_88, ↓e_Mdl_bid_89, ↓e_Mdl_bid_92, ↓e_Mdl_bid_93, ↓e_Mdl_bid_94, ↓e_Mdl_bid_97, ↓e_Mdl_bid_100, ↓e_Mdl_bid_101, ↓e_Mdl_bid_102, not_true_eq_false, not_false_eq_true, one0, true_or, or_true, eq_self, bI_z, bI_nz, bI_o, b_ft, bI_1, bI_0, ↓kC_l, ↓kC_r, Option.toList_some, Option.toList_none, List.cons_append, List.nil_append, s1_0, s1_1i, s1_1r, s1_1w, s1_1n, s1_s, s2_0, s2_1i, s2_1r, s2_1w, s2_1n, s2_s, gI_sI, gI_sR, gI_sL, gI_sD, gR_sI, gR_sR, gR_sL, gR_sD, gL_sI, gL_sR, gL_sL, gL_sD, gD_sI, gD_sR, gD_sL, gD_sD, isK_sI, isK_sR, isK_sL, isK_sD, inL_sI, inL_sR, inL_sL, inL_sD, nx_sI, nx_sR, nx_sL, nx_sD, kd_sI, kd_sR, kd_sL, kd_sD, ln_sI, ln_sR, ln_sL, ln_sD, ↓reduceIte, c8_n, c8_1, c8_2, c8_3, c8_4, Nat.reduceAdd, R.k, q_misIn, e1, e2, q_stT _ R]
    | true =>
      cases e3 : (decide (1 ≤ z) && decide (z ≤ 999)) with
      | false =>
        refine ⟨0, sI (sI h 121 0 0) 121 0 1, fun Q => ?_, Or.inl ⟨rfl, th 1, ref 1⟩⟩
        simp only [↓e_Mdl_bid_0, ↓e_Mdl_bid_1, ↓e_Mdl_bid_2, ↓e_Mdl_bid_3, ↓e_Mdl_bid_4, ↓e_Mdl_bid_7, ↓e_Mdl_bid_10, ↓e_Mdl_bid_11, ↓e_Mdl_bid_12, ↓e_Mdl_bid_14, ↓e_Mdl_bid_17, ↓e_Mdl_bid_20, ↓e_Mdl_bid_21, ↓e_Mdl_bid_22, ↓e_Mdl_bid_25, ↓e_Mdl_bid_28, ↓e_Mdl_bid_31, ↓e_Mdl_bid_32, ↓e_Mdl_bid_35, ↓e_Mdl_bid_36, ↓e_Mdl_bid_37, ↓e_Mdl_bid_40, ↓e_Mdl_bid_43, ↓e_Mdl_bid_44, ↓e_Mdl_bid_45, ↓e_Mdl_bid_48, ↓e_Mdl_bid_51, ↓e_Mdl_bid_53, ↓e_Mdl_bid_56, ↓e_Mdl_bid_57, ↓e_Mdl_bid_60, ↓e_Mdl_bid_61, ↓e_Mdl_bid_62, ↓e_Mdl_bid_65, ↓e_Mdl_bid_68, ↓e_Mdl_bid_69, ↓e_Mdl_bid_70, ↓e_Mdl_bid_71, ↓e_Mdl_bid_74, ↓e_Mdl_bid_75, ↓e_Mdl_bid_77, ↓e_Mdl_bid_78, ↓e_Mdl_bid_79, ↓e_Mdl_bid_80, ↓e_Mdl_bid_81, ↓e_Mdl_bid_82, ↓e_Mdl_bid_83, ↓e_Mdl_bid_84, ↓e_Mdl_bid_85, ↓e_Mdl_bid_86, ↓e_Mdl_bid_87, ↓e_Mdl_bid_88, ↓e_Mdl_bid_89, ↓e_Mdl_bid_92, ↓e_Mdl_bid_93, ↓e_Mdl_bid_94, ↓e_Mdl_bid_97, ↓e_Mdl_bid_100, ↓e_Mdl_bid_101, ↓e_Mdl_bid_102, not_true_eq_false, not_false_eq_true, one0, true_or, or_true, eq_self, bI_z, bI_nz, bI_o, b_ft, bI_1, bI_0, ↓kC_l, ↓kC_r, Option.toList_some, Option.toList_none, List.cons_append, List.nil_append, s1_0, s1_1i, s1_1r, s1_1w, s1_1n, s1_s, s2_0, s2_1i, s2_1r, s2_1w, s2_1n, s2_s, gI_sI, gI_sR, gI_sL, gI_sD, gR_sI, gR_sR, gR_sL, gR_sD, gL_sI, gL_sR, gL_sL, gL_sD, gD_sI, gD_sR, gD_sL, gD_sD, isK_sI, isK_sR, isK_sL, isK_sD, inL_sI, inL_sR, inL_sL, inL_sD, nx_sI, nx_sR, nx_sL, nx_sD, kd_sI, kd_sR, kd_sL, kd_sD, ln_sI, ln_sR, ln_sL, ln_sD, ↓reduceIte, c8_n, c8_1, c8_2, c8_3, c8_4, Nat.reduceAdd, R.k, q_misIn, e1, e2, e3, q_stT _ R]
      | true =>
        have V0 : BB τ b9 x9 p9 m (sI h 121 0 0) := V.sw F (R.sth 0)
        generalize hh0 : sI h 121 0 0 = h0 at *
        have z0h : gI h0 121 0 = 0 := by rw [← hh0]; exact th0 h
        have F0 := R0.F
        have n0 : nx h0 = nx h := by rw [← hh0]; rfl
        have s0 : sc h0 = sc h := by rw [← hh0]; rfl
        have Sh : Sw τ h h0 := by rw [← hh0]; exact R.sth 0
        obtain ⟨BV, W⟩ := V0.bv R0
        obtain ⟨m1, w1, w2, w3, w4, w5, w6⟩ := id W
        have ek : (ii m = 10) = (m = 10) := ii_inj (j := 10) (by omega) (by omega)
        by_cases h4 : m = 10
        · have ek4 : (ii m = 10) = True := by rw [ek]; exact eq_true h4
          refine ⟨0, sI h0 121 0 2, fun Q => ?_, Or.inr (Or.inl ⟨rfl, h4, th 2, ref 2⟩)⟩
          simp only [↓e_Mdl_bid_0, ↓e_Mdl_bid_1, ↓e_Mdl_bid_2, ↓e_Mdl_bid_3, ↓e_Mdl_bid_4, ↓e_Mdl_bid_7, ↓e_Mdl_bid_10, ↓e_Mdl_bid_11, ↓e_Mdl_bid_12, ↓e_Mdl_bid_14, ↓e_Mdl_bid_17, ↓e_Mdl_bid_20, ↓e_Mdl_bid_21, ↓e_Mdl_bid_22, ↓e_Mdl_bid_25, ↓e_Mdl_bid_28, ↓e_Mdl_bid_31, ↓e_Mdl_bid_32, ↓e_Mdl_bid_35, ↓e_Mdl_bid_36, ↓e_Mdl_bid_37, ↓e_Mdl_bid_40, ↓e_Mdl_bid_43, ↓e_Mdl_bid_44, ↓e_Mdl_bid_45, ↓e_Mdl_bid_48, ↓e_Mdl_bid_51, ↓e_Mdl_bid_53, ↓e_Mdl_bid_56, ↓e_Mdl_bid_57, ↓e_Mdl_bid_60, ↓e_Mdl_bid_61, ↓e_Mdl_bid_62, ↓e_Mdl_bid_65, ↓e_Mdl_bid_68, ↓e_Mdl_bid_69, ↓e_Mdl_bid_70, ↓e_Mdl_bid_71, ↓e_Mdl_bid_74, ↓e_Mdl_bid_75, ↓e_Mdl_bid_77, ↓e_Mdl_bid_78, ↓e_Mdl_bid_79, ↓e_Mdl_bid_80, ↓e_Mdl_bid_81, ↓e_Mdl_bid_82, ↓e_Mdl_bid_83, ↓e_Mdl_bid_84, ↓e_Mdl_bid_85, ↓e_Mdl_bid_86, ↓e_Mdl_bid_87, ↓e_Mdl_bid_88, ↓e_Mdl_bid_89, ↓e_Mdl_bid_92, ↓e_Mdl_bid_93, ↓e_Mdl_bid_94, ↓e_Mdl_bid_97, ↓e_Mdl_bid_100, ↓e_Mdl_bid_101, ↓e_Mdl_bid_102, not_true_eq_false, not_false_eq_true, one0, true_or, or_true, eq_self, bI_z, bI_nz, bI_o, b_ft, bI_1, bI_0, ↓kC_l, ↓kC_r, Option.toList_some, Option.toList_none, List.cons_append, List.nil_append, s1_0, s1_1i, s1_1r, s1_1w, s1_1n, s1_s, s2_0, s2_1i, s2_1r, s2_1w, s2_1n, s2_s, gI_sI, gI_sR, gI_sL, gI_sD, gR_sI, gR_sR, gR_sL, gR_sD, gL_sI, gL_sR, gL_sL, gL_sD, gD_sI, gD_sR, gD_sL, gD_sD, isK_sI, isK_sR, isK_sL, isK_sD, inL_sI, inL_sR, inL_sL, inL_sD, nx_sI, nx_sR, nx_sL, nx_sD, kd_sI, kd_sR, kd_sL, kd_sD, ln_sI, ln_sR, ln_sL, ln_sD, ↓reduceIte, c8_n, c8_1, c8_2, c8_3, c8_4, Nat.reduceAdd, R.k, q_misIn, e1, e2, e3, q_stF _ R, hh0, w1, w2, w3, w5, ek4, q_rfT _ R0 (show (0 : Int32) < 2 by decide) z0h]
        · have ek4 : (ii m = 10) = False := by rw [ek]; exact eq_false h4
          obtain ⟨b, b1, hb⟩ := i32_cases (b := 4) (by omega) e1
          obtain ⟨y1, y2, y3, hy⟩ := i32_cases1 (a := 1) (b := 63) (by omega) e2 (by omega)
          obtain ⟨q1, q2, q3, hq⟩ := i32_cases1 (a := 1) (b := 999) (by omega) e3 (by omega)
          obtain ⟨z0, z1, z2, z3, z4, z5⟩ := i32n
          obtain ⟨l2, l3, l5⟩ := i32p
          generalize hg0 : hN h0 100 3 3 = g0
          have N0 : Nw τ h0 3 g0 := by rw [← hg0]; exact Nw.new F0 3
          have k0 := N0.2.2.1
          obtain ⟨i0, i1, i2⟩ := rd3 N0.2.2.2.1
          have nz : (nx h0 = 0) = False := eq_false (by have := F0.1; omega)
          generalize hg : sI (sI (sI g0 (nx h0) 0 x) (nx h0) 1 y) (nx h0) 2 z = g
          have N : Nw τ h0 3 g := by rw [← hg]; exact ((N0.sI F0).sI F0).sI F0
          have gv : gI g (nx h0) 0 = x ∧ gI g (nx h0) 1 = y ∧ gI g (nx h0) 2 = z := by
            rw [← hg]
            simp only [gI_sI, Nat.reduceEqDiff, and_false, and_self, ↓reduceIte]
          have hr : okR cM sM h0 1 3 = true := ok_big (by omega) (by omega)
          have mk : ∀ b' x' p' : Nat → Nat, (∀ k, k < m → b' k = b9 k ∧ x' k = x9 k ∧ p' k = p9 k) → x = ii (b' m) → y = ii (x' m) → z = ii (p' m) → okB b' x' p' m → ∃ τ' u, (∀ Q, WP Gm j_ArrayList_add_LjavalangObjectZ 0 [some (.inr (.inl (some 124))), some (.inr (.inl (some (nx h0))))] [] g Q = Q (.inl (some (.inl 1))) u) ∧ RM τ' n p (8 * B) c B K u ∧ BB τ' b' x' p' (m + 1) u ∧ Ext τ h0 τ' u ∧ Ag τ (fun s => s = 1 ∨ s = 5 ∨ s = 8) h0 u ∧ nx u ≤ nx h0 + 2 ∧ sc u ≤ sc h0 + 60 := fun b' x' p' he ex ey ez ho => by
            have V' : BB τ b' x' p' m h0 := by
              obtain ⟨⟨a1, a2⟩, c0, c1, L⟩ := V0
              refine ⟨⟨a1, fun k hk => ?_⟩, c0, c1, L.mono fun j f hj q => ?_⟩
              · obtain ⟨t1, t2, t3⟩ := he k hk
                unfold okB
                rw [t1, t2, t3]
                exact a2 k hk
              · obtain ⟨t1, t2, t3⟩ := he j hj
                rw [t1, t2, t3]
                exact q
            exact R0.bidAddX V' N (by rw [gv.1, gv.2.1, gv.2.2]; exact ⟨ex, ey, ez⟩) (by omega) ho (by omega) (by omega)
          have fin : ∀ b' x' p' : Nat → Nat, (∀ k, k < m → b' k = b9 k ∧ x' k = x9 k ∧ p' k = p9 k) → x = ii (b' m) → y = ii (x' m) → z = ii (p' m) → okB b' x' p' m → ∃ u, (∀ Q, WP Gm j_Mdl_bid 0 [some (.inr (.inl (some 121))), some (.inl x), some (.inl y), some (.inl z)] [] h Q = Q (.inl (some (.inl (ii m)))) u) ∧ gI u 121 0 = 0 ∧ MoB τ n c B K b' x' p' (m + 1) h u := fun b' x' p' he ex ey ez ho => by
            obtain ⟨τ', u, u1, R2, V2, X2, G2, n2, s2⟩ := mk b' x' p' he ex ey ez ho
            obtain ⟨-, W2⟩ := V2.bv R2
            obtain ⟨q1, q2, q3, q4, q5, q6, q7⟩ := id W2
            have em : ii (m + 1) - 1 = ii m := by
              have := ii_pred (k := m + 1) (by omega)
              rw [this]
              rfl
            refine ⟨u, fun Q => ?_, by rw [(G2 121 (by rw [R.t1]; omega) 0).1]; exact z0h, τ', p, c, B, R2, Sh.1.trans X2, (Sh.s0.mono fun s w => by unfold S0 at w; unfold SM9; omega).trans F Sh.1 (by unfold SM9; omega) (G2.mono fun s w => by unfold SM9; omega), ⟨Nat.le_refl _, by omega, by omega⟩, V2⟩
            simp only [↓e_Mdl_bid_0, ↓e_Mdl_bid_1, ↓e_Mdl_bid_2, ↓e_Mdl_bid_3, ↓e_Mdl_bid_4, ↓e_Mdl_bid_7, ↓e_Mdl_bid_10, ↓e_Mdl_bid_11, ↓e_Mdl_bid_12, ↓e_Mdl_bid_14, ↓e_Mdl_bid_17, ↓e_Mdl_bid_20, ↓e_Mdl_bid_21, ↓e_Mdl_bid_22, ↓e_Mdl_bid_25, ↓e_Mdl_bid_28, ↓e_Mdl_bid_31, ↓e_Mdl_bid_32, ↓e_Mdl_bid_35, ↓e_Mdl_bid_36, ↓e_Mdl_bid_37, ↓e_Mdl_bid_40, ↓e_Mdl_bid_43, ↓e_Mdl_bid_44, ↓e_Mdl_bid_45, ↓e_Mdl_bid_48, ↓e_Mdl_bid_51, ↓e_Mdl_bid_53, ↓e_Mdl_bid_56, ↓e_Mdl_bid_57, ↓e_Mdl_bid_60, ↓e_Mdl_bid_61, ↓e_Mdl_bid_62, ↓e_Mdl_bid_65, ↓e_Mdl_bid_68, ↓e_Mdl_bid_69, ↓e_Mdl_bid_70, ↓e_Mdl_bid_71, ↓e_Mdl_bid_74, ↓e_Mdl_bid_75, ↓e_Mdl_bid_77, ↓e_Mdl_bid_78, ↓e_Mdl_bid_79, ↓e_Mdl_bid_80, ↓e_Mdl_bid_81, ↓e_Mdl_bid_82, ↓e_Mdl_bid_83, ↓e_Mdl_bid_84, ↓e_Mdl_bid_85, ↓e_Mdl_bid_86, ↓e_Mdl_bid_87, ↓e_Mdl_bid_88, ↓e_Mdl_bid_89, ↓e_Mdl_bid_92, ↓e_Mdl_bid_93, ↓e_Mdl_bid_94, ↓e_Mdl_bid_97, ↓e_Mdl_bid_100, ↓e_Mdl_bid_101, ↓e_Mdl_bid_102, not_true_eq_false, not_false_eq_true, one0, true_or, or_true, eq_self, bI_z, bI_nz, bI_o, b_ft, bI_1, bI_0, ↓kC_l, ↓kC_r, Option.toList_some, Option.toList_none, List.cons_append, List.nil_append, s1_0, s1_1i, s1_1r, s1_1w, s1_1n, s1_s, s2_0, s2_1i, s2_1r, s2_1w, s2_1n, s2_s, gI_sI, gI_sR, gI_sL, gI_sD, gR_sI, gR_sR, gR_sL, gR_sD, gL_sI, gL_sR, gL_sL, gL_sD, gD_sI, gD_sR, gD_sL, gD_sD, isK_sI, isK_sR, isK_sL, isK_sD, inL_sI, inL_sR, inL_sL, inL_sD, nx_sI, nx_sR, nx_sL, nx_sD, kd_sI, kd_sR, kd_sL, kd_sD, ln_sI, ln_sR, ln_sL, ln_sD, ↓reduceIte, c8_n, c8_1, c8_2, c8_3, c8_4, Nat.reduceAdd, R.k, q_misIn, e1, e2, e3, q_stF _ R, hh0, w1, w2, w3, w5, ek4, q_rfF _ R0 _ z0h, z0, z1, z2, z3, l3, Nat.reduceLeDiff, and_self, hr, hg0, k0, i0, i1, i2, nz, hg, N.2.2.2.2.1.k w3, u1, q2, q3, q4, q6, em]
          obtain ⟨u, u1, u2, -⟩ := fin (fun k => if k = m then b else b9 k) (fun k => if k = m then y1 else x9 k) (fun k => if k = m then q1 else p9 k) (fun k hk => ⟨if_neg (by omega), if_neg (by omega), if_neg (by omega)⟩) (by rw [if_pos rfl]; exact hb) (by rw [if_pos rfl]; exact hy) (by rw [if_pos rfl]; exact hq) (by unfold okB; simp only [eq_self, ↓reduceIte]; omega)
          refine ⟨ii m, u, u1, Or.inr (Or.inr ⟨rfl, by omega, u2, rfl, fun b' x' p' he ex ey ez ho => ?_⟩)⟩
          obtain ⟨u', v1, v2, v3⟩ := fin b' x' p' he ex ey ez ho
          obtain ⟨-, rfl⟩ := det u1 v1
          exact v3
/-- the auction's row -/
theorem qx_aucNow (R : RM τ n p A c B K h) (V : BB τ b9 x9 p9 m h) (hn1 : nx h + 10 ≤ 580300) (hs1 : sc h + 10 ≤ 5700000) : ∃ g, (∀ Q, WP Gm j_Mdl_auctionNow 0 [some (.inr (.inl (some 121))), none, none, none] [] h Q = Q (.inl (some (.inr (.inl (some (nx h)))))) g) ∧ Nw τ h 7 g ∧
    gI g (nx h) 0 = ii (am b9 x9 p9 m (2 ^ m)) ∧ gI g (nx h) 1 = ii (sP p9 (am b9 x9 p9 m (2 ^ m)) m) ∧ ∀ w, w < 5 → gI g (nx h) (2 + w) = pay9 b9 x9 p9 m w := by
  have F := R.F
  obtain ⟨BV, W⟩ := V.bv R
  have hr : okR cM sM h 1 7 = true := ok_big (by omega) (by omega)
  have z7 : (7 : Int32).toNatClampNeg = 7 := by decide
  have l7 : ((0 : Int32) ≤ 7) = True := eq_true (by decide)
  have zz : (0 : Int32).toNatClampNeg = 0 ∧ (1 : Int32).toNatClampNeg = 1 ∧ (2 : Int32).toNatClampNeg = 2 ∧ (3 : Int32).toNatClampNeg = 3 ∧ (4 : Int32).toNatClampNeg = 4 ∧ (5 : Int32).toNatClampNeg = 5 ∧ (6 : Int32).toNatClampNeg = 6 := by decide
  obtain ⟨y0, y1, y2, y3, y4, y5, y6⟩ := zz
  generalize hg0 : hN h 100 7 7 = g0
  have N0 : Nw τ h 7 g0 := by rw [← hg0]; exact Nw.new F 7
  have nz : (nx h = 0) = False := eq_false (by have := F.1; omega)
  have hv := mwn_v BV
  generalize hv9 : ii (am b9 x9 p9 m (2 ^ m)) = v at *
  have N1 : Nw τ h 7 (sI g0 (nx h) 0 v) := N0.sI F
  have R1 : RM τ n p A c B K (sI g0 (nx h) 0 v) := R.sw N1.2.2.2.2.sw
  obtain ⟨BV1, W2⟩ := (V.jk F N1.2.2.2.2).bv R1
  have hu : mpr (sI g0 (nx h) 0 v) v (-1) m = ii (sP p9 (am b9 x9 p9 m (2 ^ m)) m) := by
    have := mpr_n BV1 (am b9 x9 p9 m (2 ^ m)) m (Nat.le_refl _)
    rw [hv9] at this
    exact this
  generalize hu9 : ii (sP p9 (am b9 x9 p9 m (2 ^ m)) m) = u at *
  generalize hg1 : sI (sI (sI (sI (sI (sI (sI g0 (nx h) 0 v) (nx h) 1 u) (nx h) 2 0) (nx h) 3 0) (nx h) 4 0) (nx h) 5 0) (nx h) 6 0 = g1
  have N2 : Nw τ h 7 g1 := by rw [← hg1]; exact (((((N1.sI F).sI F).sI F).sI F).sI F).sI F
  have g10 : gI g1 (nx h) 0 = v ∧ gI g1 (nx h) 1 = u := by
    rw [← hg1]
    simp only [gI_sI, Nat.reduceEqDiff, and_false, and_self, ↓reduceIte]
  obtain ⟨g, e1, N, I0, I1⟩ := loopR (fun Q k (g : Hp) => WP Gm j_Mdl_auctionNow 47 [some (.inr (.inl (some 121))), some (.inl v), some (.inr (.inl (some (nx h)))), some (.inl (ii k))] [] g Q)
    (fun k g => Nw τ h 7 g ∧ (gI g (nx h) 0 = v ∧ gI g (nx h) 1 = u) ∧ ∀ w, w < k → gI g (nx h) (2 + w) = pay9 b9 x9 p9 m w) 5
    (fun k g hk I => by
      obtain ⟨N, I0, I1⟩ := I
      have Rg := R.sw N.2.2.2.2.sw
      obtain ⟨BVg, W3⟩ := (V.jk F N.2.2.2.2).bv Rg
      have hle : ((5 : Int32) ≤ ii k) = False := lle_f (n := 5) (by omega) hk
      have e2 : (2 : Int32) + ii k = ii (2 + k) := ii_add 2 k
      have ik : inL g (nx h) (ii (2 + k)) = true := N.in (by omega) (by omega)
      have py : mpy g (ii k) v m = pay9 b9 x9 p9 m k := by
        rw [← hv9, ← mwn_v BVg]
        exact mpy_v BVg hk
      refine ⟨sI g (nx h) (2 + k) (mpy g (ii k) v m), fun Q => ?_, N.sI F, ⟨by rw [gI_sI, if_neg (by omega)]; exact I0.1, by rw [gI_sI, if_neg (by omega)]; exact I0.2⟩, fun w hw => ?_⟩
      · rw [e_Mdl_auctionNow_47]
        simp only [↓e_Mdl_auctionNow_0, ↓e_Mdl_auctionNow_1, ↓e_Mdl_auctionNow_2, ↓e_Mdl_auctionNow_5, ↓e_Mdl_auctionNow_6, ↓e_Mdl_auctionNow_8, ↓e_Mdl_auctionNow_10, ↓e_Mdl_auctionNow_11, ↓e_Mdl_auctionNow_12, ↓e_Mdl_auctionNow_13, ↓e_Mdl_auctionNow_14, ↓e_Mdl_auctionNow_15, ↓e_Mdl_auctionNow_16, ↓e_Mdl_auctionNow_17, ↓e_Mdl_auctionNow_18, ↓e_Mdl_auctionNow_19, ↓e_Mdl_auctionNow_22, ↓e_Mdl_auctionNow_23, ↓e_Mdl_auctionNow_24, ↓e_Mdl_auctionNow_25, ↓e_Mdl_auctionNow_26, ↓e_Mdl_auctionNow_27, ↓e_Mdl_auctionNow_28, ↓e_Mdl_auctionNow_29, ↓e_Mdl_auctionNow_30, ↓e_Mdl_auctionNow_31, ↓e_Mdl_auctionNow_32, ↓e_Mdl_auctionNow_33, ↓e_Mdl_auctionNow_34, ↓e_Mdl_auctionNow_35, ↓e_Mdl_auctionNow_36, ↓e_Mdl_auctionNow_37, ↓e_Mdl_auctionNow_38, ↓e_Mdl_auctionNow_39, ↓e_Mdl_auctionNow_40, ↓e_Mdl_auctionNow_42, ↓e_Mdl_auctionNow_43, ↓e_Mdl_auctionNow_44, ↓e_Mdl_auctionNow_45, ↓e_Mdl_auctionNow_46, ↓e_Mdl_auctionNow_48, ↓e_Mdl_auctionNow_49, ↓e_Mdl_auctionNow_52, ↓e_Mdl_auctionNow_53, ↓e_Mdl_auctionNow_54, ↓e_Mdl_auctionNow_55, ↓e_Mdl_auctionNow_56, ↓e_Mdl_auctionNow_57, ↓e_Mdl_auctionNow_58, ↓e_Mdl_auctionNow_59, ↓e_Mdl_auctionNow_62, ↓e_Mdl_auctionNow_63, ↓e_Mdl_auctionNow_66, ↓e_Mdl_auctionNow_69, ↓e_Mdl_auctionNow_70, not_true_eq_false, not_false_eq_true, one0, true_or, or_true, eq_self, bI_z, bI_nz, bI_o, b_ft, bI_1, bI_0, ↓kC_l, ↓kC_r, Option.toList_some, Option.toList_none, List.cons_append, List.nil_append, s1_0, s1_1i, s1_1r, s1_1w, s1_1n, s1_s, s2_0, s2_1i, s2_1r, s2_1w, s2_1n, s2_s, gI_sI, gI_sR, gI_sL, gI_sD, gR_sI, gR_sR, gR_sL, gR_sD, gL_sI, gL_sR, gL_sL, gL_sD, gD_sI, gD_sR, gD_sL, gD_sD, isK_sI, isK_sR, isK_sL, isK_sD, inL_sI, inL_sR, inL_sL, inL_sD, nx_sI, nx_sR, nx_sL, nx_sD, kd_sI, kd_sR, kd_sL, kd_sD, ln_sI, ln_sR, ln_sL, ln_sD, ↓reduceIte, c8_n, c8_1, c8_2, c8_3, c8_4, Nat.reduceAdd, hle, e2, Rg.k, q_pays _ W3, N.2.2.1, ik, nz, ii_nat (show 2 + k < 2147483648 by omega), ii_succ]
      · rw [gI_sI]
        by_cases e : w = k
        · rw [if_pos ⟨rfl, by omega⟩, py, e]
        · rw [if_neg (by omega)]; exact I1 w (by omega)) 5 0 g1 (by omega) ⟨N2, g10, fun w hw => absurd hw (by omega)⟩
  refine ⟨g, fun Q => ?_, N, I0.1, I0.2, I1⟩
  obtain ⟨i0, i1, i2, i3, i4, i5, i6⟩ := rd7 N0.2.2.2.1
  have pre : WP Gm j_Mdl_auctionNow 0 [some (.inr (.inl (some 121))), none, none, none] [] h Q = WP Gm j_Mdl_auctionNow 47 [some (.inr (.inl (some 121))), some (.inl v), some (.inr (.inl (some (nx h)))), some (.inl (ii 0))] [] g1 Q := by
    simp only [↓e_Mdl_auctionNow_0, ↓e_Mdl_auctionNow_1, ↓e_Mdl_auctionNow_2, ↓e_Mdl_auctionNow_5, ↓e_Mdl_auctionNow_6, ↓e_Mdl_auctionNow_8, ↓e_Mdl_auctionNow_10, ↓e_Mdl_auctionNow_11, ↓e_Mdl_auctionNow_12, ↓e_Mdl_auctionNow_13, ↓e_Mdl_auctionNow_14, ↓e_Mdl_auctionNow_15, ↓e_Mdl_auctionNow_16, ↓e_Mdl_auctionNow_17, ↓e_Mdl_auctionNow_18, ↓e_Mdl_auctionNow_19, ↓e_Mdl_auctionNow_22, ↓e_Mdl_auctionNow_23, ↓e_Mdl_auctionNow_24, ↓e_Mdl_auctionNow_25, ↓e_Mdl_auctionNow_26, ↓e_Mdl_auctionNow_27, ↓e_Mdl_auctionNow_28, ↓e_Mdl_auctionNow_29, ↓e_Mdl_auctionNow_30, ↓e_Mdl_auctionNow_31, ↓e_Mdl_auctionNow_32, ↓e_Mdl_auctionNow_33, ↓e_Mdl_auctionNow_34, ↓e_Mdl_auctionNow_35, ↓e_Mdl_auctionNow_36, ↓e_Mdl_auctionNow_37, ↓e_Mdl_auctionNow_38, ↓e_Mdl_auctionNow_39, ↓e_Mdl_auctionNow_40, ↓e_Mdl_auctionNow_42, ↓e_Mdl_auctionNow_43, ↓e_Mdl_auctionNow_44, ↓e_Mdl_auctionNow_45, ↓e_Mdl_auctionNow_46, ↓e_Mdl_auctionNow_48, ↓e_Mdl_auctionNow_49, ↓e_Mdl_auctionNow_52, ↓e_Mdl_auctionNow_53, ↓e_Mdl_auctionNow_54, ↓e_Mdl_auctionNow_55, ↓e_Mdl_auctionNow_56, ↓e_Mdl_auctionNow_57, ↓e_Mdl_auctionNow_58, ↓e_Mdl_auctionNow_59, ↓e_Mdl_auctionNow_62, ↓e_Mdl_auctionNow_63, ↓e_Mdl_auctionNow_66, ↓e_Mdl_auctionNow_69, ↓e_Mdl_auctionNow_70, not_true_eq_false, not_false_eq_true, one0, true_or, or_true, eq_self, bI_z, bI_nz, bI_o, b_ft, bI_1, bI_0, ↓kC_l, ↓kC_r, Option.toList_some, Option.toList_none, List.cons_append, List.nil_append, s1_0, s1_1i, s1_1r, s1_1w, s1_1n, s1_s, s2_0, s2_1i, s2_1r, s2_1w, s2_1n, s2_s, gI_sI, gI_sR, gI_sL, gI_sD, gR_sI, gR_sR, gR_sL, gR_sD, gL_sI, gL_sR, gL_sL, gL_sD, gD_sI, gD_sR, gD_sL, gD_sD, isK_sI, isK_sR, isK_sL, isK_sD, inL_sI, inL_sR, inL_sL, inL_sD, nx_sI, nx_sR, nx_sL, nx_sD, kd_sI, kd_sR, kd_sL, kd_sD, ln_sI, ln_sR, ln_sL, ln_sD, ↓reduceIte, c8_n, c8_1, c8_2, c8_3, c8_4, Nat.reduceAdd, R.k, q_winners _ W, hv, z7, l7, Nat.reduceLeDiff, and_self, hr, hg0, N0.2.2.1, i0, i1, i2, i3, i4, i5, i6, nz, y0, y1, y2, y3, y4, y5, y6, R1.k, q_priceOf _ W2, hu, hg1]
    rfl
  rw [pre, e1 Q, e_Mdl_auctionNow_47]
  simp only [↓e_Mdl_auctionNow_0, ↓e_Mdl_auctionNow_1, ↓e_Mdl_auctionNow_2, ↓e_Mdl_auctionNow_5, ↓e_Mdl_auctionNow_6, ↓e_Mdl_auctionNow_8, ↓e_Mdl_auctionNow_10, ↓e_Mdl_auctionNow_11, ↓e_Mdl_auctionNow_12, ↓e_Mdl_auctionNow_13, ↓e_Mdl_auctionNow_14, ↓e_Mdl_auctionNow_15, ↓e_Mdl_auctionNow_16, ↓e_Mdl_auctionNow_17, ↓e_Mdl_auctionNow_18, ↓e_Mdl_auctionNow_19, ↓e_Mdl_auctionNow_22, ↓e_Mdl_auctionNow_23, ↓e_Mdl_auctionNow_24, ↓e_Mdl_auctionNow_25, ↓e_Mdl_auctionNow_26, ↓e_Mdl_auctionNow_27, ↓e_Mdl_auctionNow_28, ↓e_Mdl_auctionNow_29, ↓e_Mdl_auctionNow_30, ↓e_Mdl_auctionNow_31, ↓e_Mdl_auctionNow_32, ↓e_Mdl_auctionNow_33, ↓e_Mdl_auctionNow_34, ↓e_Mdl_auctionNow_35, ↓e_Mdl_auctionNow_36, ↓e_Mdl_auctionNow_37, ↓e_Mdl_auctionNow_38, ↓e_Mdl_auctionNow_39, ↓e_Mdl_auctionNow_40, ↓e_Mdl_auctionNow_42, ↓e_Mdl_auctionNow_43, ↓e_Mdl_auctionNow_44, ↓e_Mdl_auctionNow_45, ↓e_Mdl_auctionNow_46, ↓e_Mdl_auctionNow_48, ↓e_Mdl_auctionNow_49, ↓e_Mdl_auctionNow_52, ↓e_Mdl_auctionNow_53, ↓e_Mdl_auctionNow_54, ↓e_Mdl_auctionNow_55, ↓e_Mdl_auctionNow_56, ↓e_Mdl_auctionNow_57, ↓e_Mdl_auctionNow_58, ↓e_Mdl_auctionNow_59, ↓e_Mdl_auctionNow_62, ↓e_Mdl_auctionNow_63, ↓e_Mdl_auctionNow_66, ↓e_Mdl_auctionNow_69, ↓e_Mdl_auctionNow_70, not_true_eq_false, not_false_eq_true, one0, true_or, or_true, eq_self, bI_z, bI_nz, bI_o, b_ft, bI_1, bI_0, ↓kC_l, ↓kC_r, Option.toList_some, Option.toList_none, List.cons_append, List.nil_append, s1_0, s1_1i, s1_1r, s1_1w, s1_1n, s1_s, s2_0, s2_1i, s2_1r, s2_1w, s2_1n, s2_s, gI_sI, gI_sR, gI_sL, gI_sD, gR_sI, gR_sR, gR_sL, gR_sD, gL_sI, gL_sR, gL_sL, gL_sD, gD_sI, gD_sR, gD_sL, gD_sD, isK_sI, isK_sR, isK_sL, isK_sD, inL_sI, inL_sR, inL_sL, inL_sD, nx_sI, nx_sR, nx_sL, nx_sD, kd_sI, kd_sR, kd_sL, kd_sD, ln_sI, ln_sR, ln_sL, ln_sD, ↓reduceIte, c8_n, c8_1, c8_2, c8_3, c8_4, Nat.reduceAdd, (show ((5 : Int32) ≤ ii 5) = True from eq_true (by decide))]
/-- what an auction answers -/
def auc9 (b x p : Nat → Nat) (c w : Nat) : Int32 := if w = 0 then ii (am b x p c (2 ^ c)) else if w = 1 then ii (sP p (am b x p c (2 ^ c)) c) else pay9 b x p c (w - 2)
theorem qx_mauction (R : RM τ n p (8 * B) c B K h) (V : BB τ b9 x9 p9 m h) (hn1 : nx h + 1000 ≤ 580300) (hs1 : sc h + 7000 ≤ 5700000) (x : Int32) :
    ∃ v h', (∀ Q, WP Gm j_Mdl_auction 0 [some (.inr (.inl (some 121))), some (.inl x)] [] h Q = Q (.inl (some (.inl v))) h') ∧ MoB τ n c B K b9 x9 p9 m h h' ∧ (((decide (0 ≤ x) && decide (x ≤ 6)) = false ∧ gI h' 121 0 = 1) ∨ ∃ w, w ≤ 6 ∧ x = ii w ∧ gI h' 121 0 = 0 ∧ v = auc9 b9 x9 p9 m w) := by
  have F := R.F
  have R0 : RM τ n p (8 * B) c B K (sI h 121 0 0) := R.th
  cases e1 : (decide (0 ≤ x) && decide (x ≤ 6)) with
  | false =>
    refine ⟨0, sI (sI h 121 0 0) 121 0 1, fun Q => ?_, MoB.of (Mo.sw R (R.sth2 0 1) (by show nx h ≤ _; omega) (by show sc h ≤ _; omega)) V F, Or.inl ⟨rfl, by rw [gI_sI, if_pos ⟨rfl, rfl⟩]⟩⟩
    simp only [↓e_Mdl_auction_0, ↓e_Mdl_auction_1, ↓e_Mdl_auction_2, ↓e_Mdl_auction_3, ↓e_Mdl_auction_5, ↓e_Mdl_auction_8, ↓e_Mdl_auction_11, ↓e_Mdl_auction_12, ↓e_Mdl_auction_15, ↓e_Mdl_auction_16, ↓e_Mdl_auction_17, ↓e_Mdl_auction_20, ↓e_Mdl_auction_23, ↓e_Mdl_auction_24, ↓e_Mdl_auction_27, ↓e_Mdl_auction_28, ↓e_Mdl_auction_31, ↓e_Mdl_auction_32, ↓e_Mdl_auction_33, not_true_eq_false, not_false_eq_true, one0, true_or, or_true, eq_self, bI_z, bI_nz, bI_o, b_ft, bI_1, bI_0, ↓kC_l, ↓kC_r, Option.toList_some, Option.toList_none, List.cons_append, List.nil_append, s1_0, s1_1i, s1_1r, s1_1w, s1_1n, s1_s, s2_0, s2_1i, s2_1r, s2_1w, s2_1n, s2_s, gI_sI, gI_sR, gI_sL, gI_sD, gR_sI, gR_sR, gR_sL, gR_sD, gL_sI, gL_sR, gL_sL, gL_sD, gD_sI, gD_sR, gD_sL, gD_sD, isK_sI, isK_sR, isK_sL, isK_sD, inL_sI, inL_sR, inL_sL, inL_sD, nx_sI, nx_sR, nx_sL, nx_sD, kd_sI, kd_sR, kd_sL, kd_sD, ln_sI, ln_sR, ln_sL, ln_sD, ↓reduceIte, c8_n, c8_1, c8_2, c8_3, c8_4, Nat.reduceAdd, R.k, q_misIn, e1, q_stT _ R]
  | true =>
    obtain ⟨b, b1, rfl⟩ := i32_cases (b := 6) (by omega) e1
    obtain ⟨g, g1, N, v0, v1, v2⟩ := qx_aucNow R0 (V.sw F (R.sth 0)) (by show nx h + 10 ≤ _; omega) (by show sc h + 10 ≤ _; omega)
    have ib : inL g (nx h) (ii b) = true := N.in (show b < 7 by omega) (by omega)
    have kg : isK g (nx h) 100 = true := N.2.2.1
    have sw : Sw τ h g := (R.sth 0).trans N.2.2.2.2.sw
    have n1 : nx g = nx h + 1 := N.1
    have s1 : sc g = sc h + 7 := N.2.1
    have t0 : gI g 121 0 = 0 := by
      rw [(N.2.2.2.2.2 121 (by rw [R.t1]; omega) 0).1]
      exact th0 h
    refine ⟨gI g (nx h) b, g, fun Q => ?_, MoB.of (Mo.sw R sw (by omega) (by omega)) V F, Or.inr ⟨b, b1, rfl, t0, ?_⟩⟩
    · simp only [↓e_Mdl_auction_0, ↓e_Mdl_auction_1, ↓e_Mdl_auction_2, ↓e_Mdl_auction_3, ↓e_Mdl_auction_5, ↓e_Mdl_auction_8, ↓e_Mdl_auction_11, ↓e_Mdl_auction_12, ↓e_Mdl_auction_15, ↓e_Mdl_auction_16, ↓e_Mdl_auction_17, ↓e_Mdl_auction_20, ↓e_Mdl_auction_23, ↓e_Mdl_auction_24, ↓e_Mdl_auction_27, ↓e_Mdl_auction_28, ↓e_Mdl_auction_31, ↓e_Mdl_auction_32, ↓e_Mdl_auction_33, not_true_eq_false, not_false_eq_true, one0, true_or, or_true, eq_self, bI_z, bI_nz, bI_o, b_ft, bI_1, bI_0, ↓kC_l, ↓kC_r, Option.toList_some, Option.toList_none, List.cons_append, List.nil_append, s1_0, s1_1i, s1_1r, s1_1w, s1_1n, s1_s, s2_0, s2_1i, s2_1r, s2_1w, s2_1n, s2_s, gI_sI, gI_sR, gI_sL, gI_sD, gR_sI, gR_sR, gR_sL, gR_sD, gL_sI, gL_sR, gL_sL, gL_sD, gD_sI, gD_sR, gD_sL, gD_sD, isK_sI, isK_sR, isK_sL, isK_sD, inL_sI, inL_sR, inL_sL, inL_sD, nx_sI, nx_sR, nx_sL, nx_sD, kd_sI, kd_sR, kd_sL, kd_sD, ln_sI, ln_sR, ln_sL, ln_sD, ↓reduceIte, c8_n, c8_1, c8_2, c8_3, c8_4, Nat.reduceAdd, R.k, q_misIn, e1, q_stF _ R, R0.k, g1, kg, ib, ii_nat (show b < 2147483648 by omega)]
    · unfold auc9
      by_cases e0 : b = 0
      · rw [if_pos e0, e0]; exact v0
      · rw [if_neg e0]
        by_cases e2 : b = 1
        · rw [if_pos e2, e2]; exact v1
        · rw [if_neg e2]
          have := v2 (b - 2) (by omega)
          rw [show 2 + (b - 2) = b by omega] at this
          exact this
theorem qx_msell (R : RM τ n p (8 * B) c B K h) (V : BB τ b9 x9 p9 m h) (hn1 : nx h + 1000 ≤ 580300) (hs1 : sc h + 7000 ≤ 5700000) (b' x' p' : Nat → Nat) :
    ∃ h', (∀ Q, WP Gm j_Mdl_sell 0 [some (.inr (.inl (some 121))), none, none, none] [] h Q = Q (.inl (some (.inl (all9 b9 x9 p9 m)))) h') ∧ MoB τ n c B K b' x' p' 0 h h' ∧ gI h' 121 7 = gI h 121 7 + all9 b9 x9 p9 m := by
  have F := R.F
  have R0 : RM τ n p (8 * B) c B K (sI h 121 0 0) := R.th
  obtain ⟨g, g1, N, v0, v1, v2⟩ := qx_aucNow R0 (V.sw F (R.sth 0)) (by show nx h + 10 ≤ _; omega) (by show sc h + 10 ≤ _; omega)
  have g1' : ∀ Q, WP Gm j_Mdl_auctionNow 0 [some (.inr (.inl (some 121))), none, none, none] [] (sI h 121 0 0) Q = Q (.inl (some (.inr (.inl (some (nx h)))))) g := g1
  have sw : Sw τ h g := (R.sth 0).trans N.2.2.2.2.sw
  have Rg := R.sw sw
  have kg : isK g (nx h) 100 = true := N.2.2.1
  have n1 : nx g = nx h + 1 := N.1
  have s1 : sc g = sc h + 7 := N.2.1
  have step := fun Q => loop0 (fun k (a : Int32) => WP Gm j_Mdl_sell 14 [some (.inr (.inl (some 121))), some (.inr (.inl (some (nx h)))), some (.inl a), some (.inl (ii k))] [] g Q) (fun k a => a + pay9 b9 x9 p9 m k) 5
    (fun k a hk => by
      have hle : ((5 : Int32) ≤ ii k) = False := lle_f (n := 5) (by omega) hk
      have e2 : (2 : Int32) + ii k = ii (2 + k) := ii_add 2 k
      have ik : inL g (nx h) (ii (2 + k)) = true := N.in (show 2 + k < 7 by omega) (by omega)
      have vk : gI g (nx h) (2 + k) = pay9 b9 x9 p9 m k := v2 k hk
      rw [e_Mdl_sell_14]
      simp only [↓e_Mdl_sell_0, ↓e_Mdl_sell_1, ↓e_Mdl_sell_2, ↓e_Mdl_sell_5, ↓e_Mdl_sell_6, ↓e_Mdl_sell_9, ↓e_Mdl_sell_10, ↓e_Mdl_sell_11, ↓e_Mdl_sell_12, ↓e_Mdl_sell_13, ↓e_Mdl_sell_15, ↓e_Mdl_sell_16, ↓e_Mdl_sell_19, ↓e_Mdl_sell_20, ↓e_Mdl_sell_21, ↓e_Mdl_sell_22, ↓e_Mdl_sell_23, ↓e_Mdl_sell_24, ↓e_Mdl_sell_25, ↓e_Mdl_sell_26, ↓e_Mdl_sell_27, ↓e_Mdl_sell_30, ↓e_Mdl_sell_33, ↓e_Mdl_sell_34, ↓e_Mdl_sell_35, ↓e_Mdl_sell_38, ↓e_Mdl_sell_39, ↓e_Mdl_sell_40, ↓e_Mdl_sell_43, ↓e_Mdl_sell_44, ↓e_Mdl_sell_47, ↓e_Mdl_sell_50, ↓e_Mdl_sell_51, not_true_eq_false, not_false_eq_true, one0, true_or, or_true, eq_self, bI_z, bI_nz, bI_o, b_ft, bI_1, bI_0, ↓kC_l, ↓kC_r, Option.toList_some, Option.toList_none, List.cons_append, List.nil_append, s1_0, s1_1i, s1_1r, s1_1w, s1_1n, s1_s, s2_0, s2_1i, s2_1r, s2_1w, s2_1n, s2_s, gI_sI, gI_sR, gI_sL, gI_sD, gR_sI, gR_sR, gR_sL, gR_sD, gL_sI, gL_sR, gL_sL, gL_sD, gD_sI, gD_sR, gD_sL, gD_sD, isK_sI, isK_sR, isK_sL, isK_sD, inL_sI, inL_sR, inL_sL, inL_sD, nx_sI, nx_sR, nx_sL, nx_sD, kd_sI, kd_sR, kd_sL, kd_sD, ln_sI, ln_sR, ln_sL, ln_sD, ↓reduceIte, c8_n, c8_1, c8_2, c8_3, c8_4, Nat.reduceAdd, hle, e2, kg, ik, ii_nat (show 2 + k < 2147483648 by omega), vk, ii_succ]) 5 0 0 (by omega)
  have hS : upto (fun k a => a + pay9 b9 x9 p9 m k) 5 0 0 = all9 b9 x9 p9 m := rfl
  rw [hS] at step
  generalize hu : sI g 121 7 (gI g 121 7 + all9 b9 x9 p9 m) = u
  have Su : Sw τ h u := by rw [← hu]; exact sw.sI (by rw [R.t1]; unfold OW; omega)
  have Ru := R.sw Su
  have nu : nx u = nx h + 1 := by rw [← hu]; exact n1
  have su : sc u = sc h + 7 := by rw [← hu]; exact s1
  have g7 : gI g 121 7 = gI h 121 7 := by
    rw [(N.2.2.2.2.2 121 (by rw [R.t1]; omega) 7).1, gI_sI, if_neg (by omega)]
  have u7 : gI u 121 7 = gI h 121 7 + all9 b9 x9 p9 m := by rw [← hu, gI_sI, if_pos ⟨rfl, rfl⟩, g7]
  obtain ⟨k, c0, k1, c1, L⟩ := Ru.bl
  obtain ⟨w, w1, X, G, L', nw, sw'⟩ := q_zclear L
  have G' : Ag τ (fun s => s = 1 ∨ s = 5 ∨ s = 8) u w := G.mono fun s q => by rw [R.t4] at q; omega
  have Fw : Fs τ w := Ru.F.same X.2
  have Rw : RM τ n p (8 * B) c B K w := Ru.bids Fw X G' (fun f hf => by rw [Ru.F.j hf]; omega) (fun f hf => by rw [Ru.F.j hf]; omega) (fun f hf q => by rw [Ru.F.j hf] at q; omega) ⟨0, c0, by omega, c1, L'⟩
  refine ⟨w, fun Q => ?_, ⟨τ, p, c, B, Rw, Su.1.trans X, (Su.s0.mono fun s w => by unfold S0 at w; unfold SM9; omega).trans F Su.1 (by unfold SM9; omega) (G'.mono fun s q => by unfold SM9; omega), ⟨Nat.le_refl _, by omega, by omega⟩, ⟨by omega, fun k hk => absurd hk (by omega)⟩, c0, c1, L'.mono fun j f hj _ => absurd hj (by omega)⟩, by rw [(G' 121 (by rw [R.t1]; omega) 7).1]; exact u7⟩
  have pre : WP Gm j_Mdl_sell 0 [some (.inr (.inl (some 121))), none, none, none] [] h Q = WP Gm j_Mdl_sell 14 [some (.inr (.inl (some 121))), some (.inr (.inl (some (nx h)))), some (.inl 0), some (.inl (ii 0))] [] g Q := by
    simp only [↓e_Mdl_sell_0, ↓e_Mdl_sell_1, ↓e_Mdl_sell_2, ↓e_Mdl_sell_5, ↓e_Mdl_sell_6, ↓e_Mdl_sell_9, ↓e_Mdl_sell_10, ↓e_Mdl_sell_11, ↓e_Mdl_sell_12, ↓e_Mdl_sell_13, ↓e_Mdl_sell_15, ↓e_Mdl_sell_16, ↓e_Mdl_sell_19, ↓e_Mdl_sell_20, ↓e_Mdl_sell_21, ↓e_Mdl_sell_22, ↓e_Mdl_sell_23, ↓e_Mdl_sell_24, ↓e_Mdl_sell_25, ↓e_Mdl_sell_26, ↓e_Mdl_sell_27, ↓e_Mdl_sell_30, ↓e_Mdl_sell_33, ↓e_Mdl_sell_34, ↓e_Mdl_sell_35, ↓e_Mdl_sell_38, ↓e_Mdl_sell_39, ↓e_Mdl_sell_40, ↓e_Mdl_sell_43, ↓e_Mdl_sell_44, ↓e_Mdl_sell_47, ↓e_Mdl_sell_50, ↓e_Mdl_sell_51, not_true_eq_false, not_false_eq_true, one0, true_or, or_true, eq_self, bI_z, bI_nz, bI_o, b_ft, bI_1, bI_0, ↓kC_l, ↓kC_r, Option.toList_some, Option.toList_none, List.cons_append, List.nil_append, s1_0, s1_1i, s1_1r, s1_1w, s1_1n, s1_s, s2_0, s2_1i, s2_1r, s2_1w, s2_1n, s2_s, gI_sI, gI_sR, gI_sL, gI_sD, gR_sI, gR_sR, gR_sL, gR_sD, gL_sI, gL_sR, gL_sL, gL_sD, gD_sI, gD_sR, gD_sL, gD_sD, isK_sI, isK_sR, isK_sL, isK_sD, inL_sI, inL_sR, inL_sL, inL_sD, nx_sI, nx_sR, nx_sL, nx_sD, kd_sI, kd_sR, kd_sL, kd_sD, ln_sI, ln_sR, ln_sL, ln_sD, ↓reduceIte, c8_n, c8_1, c8_2, c8_3, c8_4, Nat.reduceAdd, R.k, R0.k, g1']
    rfl
  rw [pre, step Q, e_Mdl_sell_14]
  simp only [↓e_Mdl_sell_0, ↓e_Mdl_sell_1, ↓e_Mdl_sell_2, ↓e_Mdl_sell_5, ↓e_Mdl_sell_6, ↓e_Mdl_sell_9, ↓e_Mdl_sell_10, ↓e_Mdl_sell_11, ↓e_Mdl_sell_12, ↓e_Mdl_sell_13, ↓e_Mdl_sell_15, ↓e_Mdl_sell_16, ↓e_Mdl_sell_19, ↓e_Mdl_sell_20, ↓e_Mdl_sell_21, ↓e_Mdl_sell_22, ↓e_Mdl_sell_23, ↓e_Mdl_sell_24, ↓e_Mdl_sell_25, ↓e_Mdl_sell_26, ↓e_Mdl_sell_27, ↓e_Mdl_sell_30, ↓e_Mdl_sell_33, ↓e_Mdl_sell_34, ↓e_Mdl_sell_35, ↓e_Mdl_sell_38, ↓e_Mdl_sell_39, ↓e_Mdl_sell_40, ↓e_Mdl_sell_43, ↓e_Mdl_sell_44, ↓e_Mdl_sell_47, ↓e_Mdl_sell_50, ↓e_Mdl_sell_51, not_true_eq_false, not_false_eq_true, one0, true_or, or_true, eq_self, bI_z, bI_nz, bI_o, b_ft, bI_1, bI_0, ↓kC_l, ↓kC_r, Option.toList_some, Option.toList_none, List.cons_append, List.nil_append, s1_0, s1_1i, s1_1r, s1_1w, s1_1n, s1_s, s2_0, s2_1i, s2_1r, s2_1w, s2_1n, s2_s, gI_sI, gI_sR, gI_sL, gI_sD, gR_sI, gR_sR, gR_sL, gR_sD, gL_sI, gL_sR, gL_sL, gL_sD, gD_sI, gD_sR, gD_sL, gD_sD, isK_sI, isK_sR, isK_sL, isK_sD, inL_sI, inL_sR, inL_sL, inL_sD, nx_sI, nx_sR, nx_sL, nx_sD, kd_sI, kd_sR, kd_sL, kd_sD, ln_sI, ln_sR, ln_sL, ln_sD, ↓reduceIte, c8_n, c8_1, c8_2, c8_3, c8_4, Nat.reduceAdd, (show ((5 : Int32) ≤ ii 5) = True from eq_true (by decide)), Rg.k, hu, Ru.k, Ru.r11, Ru.k124, w1, Nat.reduceEqDiff, and_false, and_self]
/-- the country's bid -/
theorem MX.cong {b' x' p' : Nat → Nat} (M : MX b9 x9 p9 m h) (he : ∀ k, k < m → b' k = b9 k ∧ x' k = x9 k ∧ p' k = p9 k) : MX b' x' p' m h := by
  have hms : ∀ s k, k ≤ m → ms b' x' s k = ms b9 x9 s k := fun s k => by
    induction k with
    | zero => intro _; rfl
    | succ k ih =>
      intro hk
      obtain ⟨t1, t2, t3⟩ := he k (by omega)
      rw [ms_s, ms_s, ih (by omega)]
      unfold nd9
      rw [t1, t2]
  have hho : ∀ w s k, k ≤ m → ho b' w s k = ho b9 w s k := fun w s k => by
    induction k with
    | zero => intro _; rfl
    | succ k ih =>
      intro hk
      rw [ho_s, ho_s, ih (by omega), (he k (by omega)).1]
  have hsp : ∀ s, sP p' s m = sP p9 s m := fun s => sP_congr fun i hi => ⟨(he i hi).2.2, rfl⟩
  have hva : ∀ s, va9 b' x' s m = va9 b9 x9 s m := fun s => by unfold va9; rw [hms s m (Nat.le_refl _)]
  have ham : ∀ k, am b' x' p' m k = am b9 x9 p9 m k := fun k => by
    induction k with
    | zero => rfl
    | succ k ih => rw [am_s, am_s, ih, hva, hsp, hsp]
  have hum : ∀ w k, um b' x' p' m w k = um b9 x9 p9 m w k := fun w k => by
    induction k with
    | zero => rfl
    | succ k ih => rw [um_s, um_s, ih, hva, hho w k m (Nat.le_refl _), hsp]
  obtain ⟨m1, m2, m3, m4, m5, m6, m7⟩ := M
  refine ⟨m1, fun i hi => ?_, m3, fun s hs => ?_, by rw [ham]; exact m5, by rw [ham, hsp]; exact m6, fun w hw => by rw [hum]; exact m7 w hw⟩
  · obtain ⟨t1, t2, t3⟩ := he i hi
    rw [t1, t2, t3]
    exact m2 i hi
  · rw [hms s m (Nat.le_refl _), hsp]; exact m4 s hs
theorem MX.z8 (M : MX b9 x9 p9 m h) : gI h 118 0 = 0 := by
  have ms0 : ∀ k, ms b9 x9 0 k = some 0 := fun k => by
    induction k with
    | zero => rfl
    | succ k ih => rw [ms_s, Nat.zero_testBit, if_neg (by decide), ih]
  rcases M.2.2.2.1 0 (Nat.two_pow_pos m) with ⟨q1, -⟩ | ⟨a, q1, q2, q3⟩
  · rw [ms0] at q1; cases q1
  · rw [ms0] at q1
    cases Option.some.inj q1
    exact q3
theorem MX.up {lo : Nat} (M : MX b9 x9 p9 m h) (C : CCg lo n T h h') (hlo : lo ≤ 115) (hnx : 121 ≤ nx h) : MX b9 x9 p9 m h' := M.of fun a k h1 h2 => (C.2.2.2.1 a k (Or.inr (by omega)) (by omega)).1
theorem cx_bid (L : LV n B T h) (hB : B ≤ 2000) (W : FN n h) (hr : okR cM sM h 1 6 = true) (M : MX b9 x9 p9 m h) (x y z : Int32) : ∃ rs h', (∀ Q, WP Gm j_S_bid 0 [some (.inr (.inl (some 1))), some (.inl x), some (.inl y), some (.inl z)] [] h Q = Q rs h') ∧ CCg 121 n (T + 1) h h' ∧
    ((bidOK x y z = false ∧ rs = .inr 0 ∧ MX b9 x9 p9 m h') ∨ (bidOK x y z = true ∧ m = 10 ∧ rs = .inr 1 ∧ MX b9 x9 p9 m h') ∨
      (bidOK x y z = true ∧ m < 10 ∧ rs = .inl (some (.inl (ii m))) ∧ ∀ b' x' p' : Nat → Nat, (∀ k, k < m → b' k = b9 k ∧ x' k = x9 k ∧ p' k = p9 k) → x = ii (b' m) → y = ii (x' m) → z = ii (p' m) → okB b' x' p' m → MX b' x' p' (m + 1) h')) := by
  have S := L.1.1.1
  have hnx : 121 ≤ nx h := S.1.1
  obtain ⟨rs, h', r1, -, cc⟩ := c_bid L hB W hr x y z
  have mr : ∀ k, MX b9 x9 p9 m (hN h k 0 6) := fun k => M.of fun a j h1 h2 => by rw [gI_hN, if_neg (by omega)]
  have hc := M.2.2.1
  have m10 := M.1
  refine ⟨rs, h', r1, cc, ?_⟩
  unfold bidOK
  cases e1 : (decide (0 ≤ x) && decide (x ≤ 4)) with
  | false =>
    have r2 : ∀ Q, WP Gm j_S_bid 0 [some (.inr (.inl (some 1))), some (.inl x), some (.inl y), some (.inl z)] [] h Q = Q (.inr 0) (hN h kc_IllegalArgumentException 0 6) := fun Q => by simp only [↓e_S_bid_0, ↓e_S_bid_1, ↓e_S_bid_2, ↓e_S_bid_3, ↓e_S_bid_6, ↓e_S_bid_9, ↓e_S_bid_10, ↓e_S_bid_11, ↓e_S_bid_13, ↓e_S_bid_16, ↓e_S_bid_19, ↓e_S_bid_20, ↓e_S_bid_21, ↓e_S_bid_24, ↓e_S_bid_27, ↓e_S_bid_30, ↓e_S_bid_40, ↓e_S_bid_41, ↓e_S_bid_44, ↓e_S_bid_47, ↓e_S_bid_49, ↓e_S_bid_52, ↓e_S_bid_62, ↓e_S_bid_63, ↓e_S_bid_66, ↓e_S_bid_67, ↓e_S_bid_68, ↓e_S_bid_69, ↓e_S_bid_72, not_true_eq_false, not_false_eq_true, one0, true_or, or_true, eq_self, bI_z, bI_nz, bI_o, b_ft, bI_1, bI_0, ↓kC_l, ↓kC_r, Option.toList_some, Option.toList_none, List.cons_append, List.nil_append, s1_0, s1_1i, s1_1r, s1_1w, s1_1n, s1_s, s2_0, s2_1i, s2_1r, s2_1w, s2_1n, s2_s, gI_sI, gI_sR, gI_sL, gI_sD, gR_sI, gR_sR, gR_sL, gR_sD, gL_sI, gL_sR, gL_sL, gL_sD, gD_sI, gD_sR, gD_sL, gD_sD, isK_sI, isK_sR, isK_sL, isK_sD, inL_sI, inL_sR, inL_sL, inL_sD, nx_sI, nx_sR, nx_sL, nx_sD, kd_sI, kd_sR, kd_sL, kd_sD, ln_sI, ln_sR, ln_sL, ln_sD, ↓reduceIte, c8_n, c8_1, c8_2, c8_3, c8_4, Nat.reduceAdd, k_s S, k_land S, k_nodes S, k_hear S, k_routes S, k_traffic S, k_market S, g_cnt S, r_land S, r_routes S, r_traffic S, r_market S, r_nodes S, r_hear S, r_rland S, r_tland S, r_troutes S, q_isWithin, e1, hr]
    obtain ⟨rfl, rfl⟩ := det r1 r2
    exact Or.inl ⟨rfl, rfl, mr _⟩
  | true =>
    cases e2 : (decide (1 ≤ y) && decide (y ≤ 63)) with
    | false =>
      have r2 : ∀ Q, WP Gm j_S_bid 0 [some (.inr (.inl (some 1))), some (.inl x), some (.inl y), some (.inl z)] [] h Q = Q (.inr 0) (hN h kc_IllegalArgumentException 0 6) := fun Q => by simp only [↓e_S_bid_0, ↓e_S_bid_1, ↓e_S_bid_2, ↓e_S_bid_3, ↓e_S_bid_6, ↓e_S_bid_9, ↓e_S_bid_10, ↓e_S_bid_11, ↓e_S_bid_13, ↓e_S_bid_16, ↓e_S_bid_19, ↓e_S_bid_20, ↓e_S_bid_21, ↓e_S_bid_24, ↓e_S_bid_27, ↓e_S_bid_30, ↓e_S_bid_40, ↓e_S_bid_41, ↓e_S_bid_44, ↓e_S_bid_47, ↓e_S_bid_49, ↓e_S_bid_52, ↓e_S_bid_62, ↓e_S_bid_63, ↓e_S_bid_66, ↓e_S_bid_67, ↓e_S_bid_68, ↓e_S_bid_69, ↓e_S_bid_72, not_true_eq_false, not_false_eq_true, one0, true_or, or_true, eq_self, bI_z, bI_nz, bI_o, b_ft, bI_1, bI_0, ↓kC_l, ↓kC_r, Option.toList_some, Option.toList_none, List.cons_append, List.nil_append, s1_0, s1_1i, s1_1r, s1_1w, s1_1n, s1_s, s2_0, s2_1i, s2_1r, s2_1w, s2_1n, s2_s, gI_sI, gI_sR, gI_sL, gI_sD, gR_sI, gR_sR, gR_sL, gR_sD, gL_sI, gL_sR, gL_sL, gL_sD, gD_sI, gD_sR, gD_sL, gD_sD, isK_sI, isK_sR, isK_sL, isK_sD, inL_sI, inL_sR, inL_sL, inL_sD, nx_sI, nx_sR, nx_sL, nx_sD, kd_sI, kd_sR, kd_sL, kd_sD, ln_sI, ln_sR, ln_sL, ln_sD, ↓reduceIte, c8_n, c8_1, c8_2, c8_3, c8_4, Nat.reduceAdd, k_s S, k_land S, k_nodes S, k_hear S, k_routes S, k_traffic S, k_market S, g_cnt S, r_land S, r_routes S, r_traffic S, r_market S, r_nodes S, r_hear S, r_rland S, r_tland S, r_troutes S, q_isWithin, e1, e2, hr]
      obtain ⟨rfl, rfl⟩ := det r1 r2
      exact Or.inl ⟨rfl, rfl, mr _⟩
    | true =>
      cases e3 : (decide (1 ≤ z) && decide (z ≤ 999)) with
      | false =>
        have r2 : ∀ Q, WP Gm j_S_bid 0 [some (.inr (.inl (some 1))), some (.inl x), some (.inl y), some (.inl z)] [] h Q = Q (.inr 0) (hN h kc_IllegalArgumentException 0 6) := fun Q => by simp only [↓e_S_bid_0, ↓e_S_bid_1, ↓e_S_bid_2, ↓e_S_bid_3, ↓e_S_bid_6, ↓e_S_bid_9, ↓e_S_bid_10, ↓e_S_bid_11, ↓e_S_bid_13, ↓e_S_bid_16, ↓e_S_bid_19, ↓e_S_bid_20, ↓e_S_bid_21, ↓e_S_bid_24, ↓e_S_bid_27, ↓e_S_bid_30, ↓e_S_bid_40, ↓e_S_bid_41, ↓e_S_bid_44, ↓e_S_bid_47, ↓e_S_bid_49, ↓e_S_bid_52, ↓e_S_bid_62, ↓e_S_bid_63, ↓e_S_bid_66, ↓e_S_bid_67, ↓e_S_bid_68, ↓e_S_bid_69, ↓e_S_bid_72, not_true_eq_false, not_false_eq_true, one0, true_or, or_true, eq_self, bI_z, bI_nz, bI_o, b_ft, bI_1, bI_0, ↓kC_l, ↓kC_r, Option.toList_some, Option.toList_none, List.cons_append, List.nil_append, s1_0, s1_1i, s1_1r, s1_1w, s1_1n, s1_s, s2_0, s2_1i, s2_1r, s2_1w, s2_1n, s2_s, gI_sI, gI_sR, gI_sL, gI_sD, gR_sI, gR_sR, gR_sL, gR_sD, gL_sI, gL_sR, gL_sL, gL_sD, gD_sI, gD_sR, gD_sL, gD_sD, isK_sI, isK_sR, isK_sL, isK_sD, inL_sI, inL_sR, inL_sL, inL_sD, nx_sI, nx_sR, nx_sL, nx_sD, kd_sI, kd_sR, kd_sL, kd_sD, ln_sI, ln_sR, ln_sL, ln_sD, ↓reduceIte, c8_n, c8_1, c8_2, c8_3, c8_4, Nat.reduceAdd, k_s S, k_land S, k_nodes S, k_hear S, k_routes S, k_traffic S, k_market S, g_cnt S, r_land S, r_routes S, r_traffic S, r_market S, r_nodes S, r_hear S, r_rland S, r_tland S, r_troutes S, q_isWithin, e1, e2, e3, hr]
        obtain ⟨rfl, rfl⟩ := det r1 r2
        exact Or.inl ⟨rfl, rfl, mr _⟩
      | true =>
        have e10 : (ii m < (10 : Int32)) = (m < 10) := ii_lt (j := 10) (by omega) (by omega)
        by_cases h10 : m < 10
        · obtain ⟨b, b1, hb⟩ := i32_cases (b := 4) (by omega) e1
          obtain ⟨y1, y2, y3, hy⟩ := i32_cases1 (a := 1) (b := 63) (by omega) e2 (by omega)
          obtain ⟨q1, q2, q3, hq⟩ := i32_cases1 (a := 1) (b := 999) (by omega) e3 (by omega)
          have fin : ∀ b' x' p' : Nat → Nat, (∀ k, k < m → b' k = b9 k ∧ x' k = x9 k ∧ p' k = p9 k) → x = ii (b' m) → y = ii (x' m) → z = ii (p' m) → okB b' x' p' m → ∃ u, (∀ Q, WP Gm j_S_bid 0 [some (.inr (.inl (some 1))), some (.inl x), some (.inl y), some (.inl z)] [] h Q = Q (.inl (some (.inl (ii m)))) u) ∧ MX b' x' p' (m + 1) u := fun b' x' p' he ex ey ez ho => by
            obtain ⟨u, u1, -, u3⟩ := q_addX S h10 (M.cong he) ho
            refine ⟨u, fun Q => ?_, u3⟩
            subst ex ey ez
            simp only [↓e_S_bid_0, ↓e_S_bid_1, ↓e_S_bid_2, ↓e_S_bid_3, ↓e_S_bid_6, ↓e_S_bid_9, ↓e_S_bid_10, ↓e_S_bid_11, ↓e_S_bid_13, ↓e_S_bid_16, ↓e_S_bid_19, ↓e_S_bid_20, ↓e_S_bid_21, ↓e_S_bid_24, ↓e_S_bid_27, ↓e_S_bid_30, ↓e_S_bid_40, ↓e_S_bid_41, ↓e_S_bid_44, ↓e_S_bid_47, ↓e_S_bid_49, ↓e_S_bid_52, ↓e_S_bid_62, ↓e_S_bid_63, ↓e_S_bid_66, ↓e_S_bid_67, ↓e_S_bid_68, ↓e_S_bid_69, ↓e_S_bid_72, not_true_eq_false, not_false_eq_true, one0, true_or, or_true, eq_self, bI_z, bI_nz, bI_o, b_ft, bI_1, bI_0, ↓kC_l, ↓kC_r, Option.toList_some, Option.toList_none, List.cons_append, List.nil_append, s1_0, s1_1i, s1_1r, s1_1w, s1_1n, s1_s, s2_0, s2_1i, s2_1r, s2_1w, s2_1n, s2_s, gI_sI, gI_sR, gI_sL, gI_sD, gR_sI, gR_sR, gR_sL, gR_sD, gL_sI, gL_sR, gL_sL, gL_sD, gD_sI, gD_sR, gD_sL, gD_sD, isK_sI, isK_sR, isK_sL, isK_sD, inL_sI, inL_sR, inL_sL, inL_sD, nx_sI, nx_sR, nx_sL, nx_sD, kd_sI, kd_sR, kd_sL, kd_sD, ln_sI, ln_sR, ln_sL, ln_sD, ↓reduceIte, c8_n, c8_1, c8_2, c8_3, c8_4, Nat.reduceAdd, k_s S, k_land S, k_nodes S, k_hear S, k_routes S, k_traffic S, k_market S, g_cnt S, r_land S, r_routes S, r_traffic S, r_market S, r_nodes S, r_hear S, r_rland S, r_tland S, r_troutes S, q_isWithin, e1, e2, e3, Bool.true_eq_false, hc, e10, h10, u1]
          obtain ⟨u, u1, -⟩ := fin (fun k => if k = m then b else b9 k) (fun k => if k = m then y1 else x9 k) (fun k => if k = m then q1 else p9 k) (fun k hk => ⟨if_neg (by omega), if_neg (by omega), if_neg (by omega)⟩) (by rw [if_pos rfl]; exact hb) (by rw [if_pos rfl]; exact hy) (by rw [if_pos rfl]; exact hq) (by unfold okB; simp only [eq_self, ↓reduceIte]; omega)
          obtain ⟨e5, -⟩ := det r1 u1
          refine Or.inr (Or.inr ⟨rfl, h10, e5, fun b' x' p' he ex ey ez ho => ?_⟩)
          obtain ⟨u', v1, v3⟩ := fin b' x' p' he ex ey ez ho
          obtain ⟨-, rfl⟩ := det r1 v1
          exact v3
        · have r2 : ∀ Q, WP Gm j_S_bid 0 [some (.inr (.inl (some 1))), some (.inl x), some (.inl y), some (.inl z)] [] h Q = Q (.inr 1) (hN h kc_IllegalStateException 0 6) := fun Q => by simp only [↓e_S_bid_0, ↓e_S_bid_1, ↓e_S_bid_2, ↓e_S_bid_3, ↓e_S_bid_6, ↓e_S_bid_9, ↓e_S_bid_10, ↓e_S_bid_11, ↓e_S_bid_13, ↓e_S_bid_16, ↓e_S_bid_19, ↓e_S_bid_20, ↓e_S_bid_21, ↓e_S_bid_24, ↓e_S_bid_27, ↓e_S_bid_30, ↓e_S_bid_40, ↓e_S_bid_41, ↓e_S_bid_44, ↓e_S_bid_47, ↓e_S_bid_49, ↓e_S_bid_52, ↓e_S_bid_62, ↓e_S_bid_63, ↓e_S_bid_66, ↓e_S_bid_67, ↓e_S_bid_68, ↓e_S_bid_69, ↓e_S_bid_72, not_true_eq_false, not_false_eq_true, one0, true_or, or_true, eq_self, bI_z, bI_nz, bI_o, b_ft, bI_1, bI_0, ↓kC_l, ↓kC_r, Option.toList_some, Option.toList_none, List.cons_append, List.nil_append, s1_0, s1_1i, s1_1r, s1_1w, s1_1n, s1_s, s2_0, s2_1i, s2_1r, s2_1w, s2_1n, s2_s, gI_sI, gI_sR, gI_sL, gI_sD, gR_sI, gR_sR, gR_sL, gR_sD, gL_sI, gL_sR, gL_sL, gL_sD, gD_sI, gD_sR, gD_sL, gD_sD, isK_sI, isK_sR, isK_sL, isK_sD, inL_sI, inL_sR, inL_sL, inL_sD, nx_sI, nx_sR, nx_sL, nx_sD, kd_sI, kd_sR, kd_sL, kd_sD, ln_sI, ln_sR, ln_sL, ln_sD, ↓reduceIte, c8_n, c8_1, c8_2, c8_3, c8_4, Nat.reduceAdd, k_s S, k_land S, k_nodes S, k_hear S, k_routes S, k_traffic S, k_market S, g_cnt S, r_land S, r_routes S, r_traffic S, r_market S, r_nodes S, r_hear S, r_rland S, r_tland S, r_troutes S, q_isWithin, e1, e2, e3, Bool.true_eq_false, hc, e10, h10, hr]
          obtain ⟨rfl, rfl⟩ := det r1 r2
          exact Or.inr (Or.inl ⟨rfl, by omega, rfl, mr _⟩)
theorem hx_bid (L : LV n B T h) (hB : B ≤ 2000) (W : FN n h) (hr : okR cM sM h 1 6 = true) (hO : isK h 125 kc_Out = true) (M : MX b9 x9 p9 m h) (x y z : Int32) : ∃ k h', (∀ Q, WP Gm j_Law_bid 0 [some (.inr (.inl (some 1))), some (.inl x), some (.inl y), some (.inl z), some (.inr (.inl (some 125))), none] [] h Q = Q (.inl (some (.inl k))) h') ∧ CCg 121 n (T + 1) h h' ∧
    ((bidOK x y z = false ∧ k = 1 ∧ MX b9 x9 p9 m h') ∨ (bidOK x y z = true ∧ m = 10 ∧ k = 2 ∧ MX b9 x9 p9 m h') ∨
      (bidOK x y z = true ∧ m < 10 ∧ k = 0 ∧ gL h' 125 0 = (ii m).toInt64 ∧ ∀ b' x' p' : Nat → Nat, (∀ k, k < m → b' k = b9 k ∧ x' k = x9 k ∧ p' k = p9 k) → x = ii (b' m) → y = ii (x' m) → z = ii (p' m) → okB b' x' p' m → MX b' x' p' (m + 1) h')) := by
  have S := L.1.1.1
  obtain ⟨rs, h1, r1, cc, ok⟩ := cx_bid L hB W hr M x y z
  have hO1 := cc_out cc hO
  rcases ok with ⟨a1, rfl, a3⟩ | ⟨a1, a2, rfl, a3⟩ | ⟨a1, a2, rfl, a3⟩
  · refine ⟨1, h1, fun Q => ?_, cc, Or.inl ⟨a1, rfl, a3⟩⟩
    simp only [↓e_Law_bid_0, ↓e_Law_bid_2, ↓e_Law_bid_3, ↓e_Law_bid_4, ↓e_Law_bid_5, ↓e_Law_bid_6, ↓e_Law_bid_9, ↓e_Law_bid_10, ↓e_Law_bid_13, ↓e_Law_bid_16, ↓e_Law_bid_18, ↓e_Law_bid_19, ↓e_Law_bid_20, ↓e_Law_bid_22, ↓e_Law_bid_23, ↓e_Law_bid_24, ↓e_Law_bid_25, not_true_eq_false, not_false_eq_true, one0, true_or, or_true, eq_self, bI_z, bI_nz, bI_o, b_ft, bI_1, bI_0, ↓kC_l, ↓kC_r, Option.toList_some, Option.toList_none, List.cons_append, List.nil_append, s1_0, s1_1i, s1_1r, s1_1w, s1_1n, s1_s, s2_0, s2_1i, s2_1r, s2_1w, s2_1n, s2_s, gI_sI, gI_sR, gI_sL, gI_sD, gR_sI, gR_sR, gR_sL, gR_sD, gL_sI, gL_sR, gL_sL, gL_sD, gD_sI, gD_sR, gD_sL, gD_sD, isK_sI, isK_sR, isK_sL, isK_sD, inL_sI, inL_sR, inL_sL, inL_sD, nx_sI, nx_sR, nx_sL, nx_sD, kd_sI, kd_sR, kd_sL, kd_sD, ln_sI, ln_sR, ln_sL, ln_sD, ↓reduceIte, c8_n, c8_1, c8_2, c8_3, c8_4, Nat.reduceAdd, k_s S, r1, (show mHx_Law_bid 0 = some (18, 5) from rfl), ne_eq, Nat.reduceEqDiff, true_and]
  · refine ⟨2, h1, fun Q => ?_, cc, Or.inr (Or.inl ⟨a1, a2, rfl, a3⟩)⟩
    simp only [↓e_Law_bid_0, ↓e_Law_bid_2, ↓e_Law_bid_3, ↓e_Law_bid_4, ↓e_Law_bid_5, ↓e_Law_bid_6, ↓e_Law_bid_9, ↓e_Law_bid_10, ↓e_Law_bid_13, ↓e_Law_bid_16, ↓e_Law_bid_18, ↓e_Law_bid_19, ↓e_Law_bid_20, ↓e_Law_bid_22, ↓e_Law_bid_23, ↓e_Law_bid_24, ↓e_Law_bid_25, not_true_eq_false, not_false_eq_true, one0, true_or, or_true, eq_self, bI_z, bI_nz, bI_o, b_ft, bI_1, bI_0, ↓kC_l, ↓kC_r, Option.toList_some, Option.toList_none, List.cons_append, List.nil_append, s1_0, s1_1i, s1_1r, s1_1w, s1_1n, s1_s, s2_0, s2_1i, s2_1r, s2_1w, s2_1n, s2_s, gI_sI, gI_sR, gI_sL, gI_sD, gR_sI, gR_sR, gR_sL, gR_sD, gL_sI, gL_sR, gL_sL, gL_sD, gD_sI, gD_sR, gD_sL, gD_sD, isK_sI, isK_sR, isK_sL, isK_sD, inL_sI, inL_sR, inL_sL, inL_sD, nx_sI, nx_sR, nx_sL, nx_sD, kd_sI, kd_sR, kd_sL, kd_sD, ln_sI, ln_sR, ln_sL, ln_sD, ↓reduceIte, c8_n, c8_1, c8_2, c8_3, c8_4, Nat.reduceAdd, k_s S, r1, (show mHx_Law_bid 1 = some (22, 5) from rfl), ne_eq, Nat.reduceEqDiff, true_and]
  · refine ⟨0, sL h1 125 0 (ii m).toInt64, fun Q => ?_, cc_sL cc _ _ _ (by omega), Or.inr (Or.inr ⟨a1, a2, rfl, by rw [gL_sL, if_pos ⟨rfl, rfl⟩], fun b' x' p' he ex ey ez ho => (a3 b' x' p' he ex ey ez ho).of fun a k h1 h2 => rfl⟩)⟩
    simp only [↓e_Law_bid_0, ↓e_Law_bid_2, ↓e_Law_bid_3, ↓e_Law_bid_4, ↓e_Law_bid_5, ↓e_Law_bid_6, ↓e_Law_bid_9, ↓e_Law_bid_10, ↓e_Law_bid_13, ↓e_Law_bid_16, ↓e_Law_bid_18, ↓e_Law_bid_19, ↓e_Law_bid_20, ↓e_Law_bid_22, ↓e_Law_bid_23, ↓e_Law_bid_24, ↓e_Law_bid_25, not_true_eq_false, not_false_eq_true, one0, true_or, or_true, eq_self, bI_z, bI_nz, bI_o, b_ft, bI_1, bI_0, ↓kC_l, ↓kC_r, Option.toList_some, Option.toList_none, List.cons_append, List.nil_append, s1_0, s1_1i, s1_1r, s1_1w, s1_1n, s1_s, s2_0, s2_1i, s2_1r, s2_1w, s2_1n, s2_s, gI_sI, gI_sR, gI_sL, gI_sD, gR_sI, gR_sR, gR_sL, gR_sD, gL_sI, gL_sR, gL_sL, gL_sD, gD_sI, gD_sR, gD_sL, gD_sD, isK_sI, isK_sR, isK_sL, isK_sD, inL_sI, inL_sR, inL_sL, inL_sD, nx_sI, nx_sR, nx_sL, nx_sD, kd_sI, kd_sR, kd_sL, kd_sD, ln_sI, ln_sR, ln_sL, ln_sD, ↓reduceIte, c8_n, c8_1, c8_2, c8_3, c8_4, Nat.reduceAdd, k_s S, r1, hO1]
theorem cx_sell (L : LV n B T h) (hB : B ≤ 2000) (W : FN n h) (M : MX b9 x9 p9 m h) (b' x' p' : Nat → Nat) : ∃ h', (∀ Q, WP Gm j_S_sell 0 [some (.inr (.inl (some 1)))] [] h Q = Q (.inl (some (.inl (all9 b9 x9 p9 m)))) h') ∧ CCg 121 n (T + 1) h h' ∧ MX b' x' p' 0 h' ∧ gI h' 115 8 = gI h 115 8 + all9 b9 x9 p9 m := by
  have S := L.1.1.1
  obtain ⟨v, h1, r1, cc⟩ := c_sell L hB W
  obtain ⟨u, u1, -, u3, u4, u5⟩ := q_sellAllX S M M.z8 b' x' p'
  have r2 : ∀ Q, WP Gm j_S_sell 0 [some (.inr (.inl (some 1)))] [] h Q = Q (.inl (some (.inl (all9 b9 x9 p9 m)))) u := fun Q => by simp only [↓e_S_sell_0, ↓e_S_sell_1, ↓e_S_sell_4, ↓e_S_sell_7, not_true_eq_false, not_false_eq_true, one0, true_or, or_true, eq_self, bI_z, bI_nz, bI_o, b_ft, bI_1, bI_0, ↓kC_l, ↓kC_r, Option.toList_some, Option.toList_none, List.cons_append, List.nil_append, s1_0, s1_1i, s1_1r, s1_1w, s1_1n, s1_s, s2_0, s2_1i, s2_1r, s2_1w, s2_1n, s2_s, gI_sI, gI_sR, gI_sL, gI_sD, gR_sI, gR_sR, gR_sL, gR_sD, gL_sI, gL_sR, gL_sL, gL_sD, gD_sI, gD_sR, gD_sL, gD_sD, isK_sI, isK_sR, isK_sL, isK_sD, inL_sI, inL_sR, inL_sL, inL_sD, nx_sI, nx_sR, nx_sL, nx_sD, kd_sI, kd_sR, kd_sL, kd_sD, ln_sI, ln_sR, ln_sL, ln_sD, ↓reduceIte, c8_n, c8_1, c8_2, c8_3, c8_4, Nat.reduceAdd, k_s S, k_land S, k_nodes S, k_hear S, k_routes S, k_traffic S, k_market S, g_cnt S, r_land S, r_routes S, r_traffic S, r_market S, r_nodes S, r_hear S, r_rland S, r_tland S, r_troutes S, u1]
  obtain ⟨-, rfl⟩ := det r1 r2
  exact ⟨h1, r2, cc, u3, u5⟩
theorem cx_auction (L : LV n B T h) (hB : B ≤ 2000) (W : FN n h) (hr : okR cM sM h 1 6 = true) (M : MX b9 x9 p9 m h) (x : Int32) : ((decide (0 ≤ x) && decide (x ≤ 6)) = false ∧ ∃ h', (∀ Q, WP Gm j_S_auction 0 [some (.inr (.inl (some 1))), some (.inl x)] [] h Q = Q (.inr 0) h') ∧ CC n (T + 1) h h') ∨ ∃ w, w ≤ 6 ∧ x = ii w ∧ ∀ Q, WP Gm j_S_auction 0 [some (.inr (.inl (some 1))), some (.inl x)] [] h Q = Q (.inl (some (.inl (auc9 b9 x9 p9 m w)))) h := by
  have S := L.1.1.1
  cases e1 : (decide (0 ≤ x) && decide (x ≤ 6)) with
  | false =>
    refine Or.inl ⟨rfl, _, fun Q => ?_, CC.exc L hB W kc_IllegalArgumentException⟩
    simp only [↓e_S_auction_0, ↓e_S_auction_1, ↓e_S_auction_2, ↓e_S_auction_4, ↓e_S_auction_7, ↓e_S_auction_10, ↓e_S_auction_21, ↓e_S_auction_22c0, ↓e_S_auction_22c1, ↓e_S_auction_48, ↓e_S_auction_49, ↓e_S_auction_52, ↓e_S_auction_55, ↓e_S_auction_56, ↓e_S_auction_57, ↓e_S_auction_60, ↓e_S_auction_63, ↓e_S_auction_64, ↓e_S_auction_65, ↓e_S_auction_68, ↓e_S_auction_69, ↓e_S_auction_70, ↓e_S_auction_71, ↓e_S_auction_74, not_true_eq_false, not_false_eq_true, one0, true_or, or_true, eq_self, bI_z, bI_nz, bI_o, b_ft, bI_1, bI_0, ↓kC_l, ↓kC_r, Option.toList_some, Option.toList_none, List.cons_append, List.nil_append, s1_0, s1_1i, s1_1r, s1_1w, s1_1n, s1_s, s2_0, s2_1i, s2_1r, s2_1w, s2_1n, s2_s, gI_sI, gI_sR, gI_sL, gI_sD, gR_sI, gR_sR, gR_sL, gR_sD, gL_sI, gL_sR, gL_sL, gL_sD, gD_sI, gD_sR, gD_sL, gD_sD, isK_sI, isK_sR, isK_sL, isK_sD, inL_sI, inL_sR, inL_sL, inL_sD, nx_sI, nx_sR, nx_sL, nx_sD, kd_sI, kd_sR, kd_sL, kd_sD, ln_sI, ln_sR, ln_sL, ln_sD, ↓reduceIte, c8_n, c8_1, c8_2, c8_3, c8_4, Nat.reduceAdd, k_s S, k_land S, k_nodes S, k_hear S, k_routes S, k_traffic S, k_market S, g_cnt S, r_land S, r_routes S, r_traffic S, r_market S, r_nodes S, r_hear S, r_rland S, r_tland S, r_troutes S, q_isWithin, e1, hr]
  | true =>
    obtain ⟨w, w1, rfl⟩ := i32_cases (b := 6) (by omega) e1
    refine Or.inr ⟨w, w1, rfl, fun Q => ?_⟩
    unfold auc9
    by_cases e0 : w = 0
    · subst e0
      rw [if_pos rfl, ← M.2.2.2.2.1]
      exact q_auc0 Q S
    · rw [if_neg e0]
      by_cases e2 : w = 1
      · subst e2
        rw [if_pos rfl, ← M.2.2.2.2.2.1]
        exact q_auc1 Q S
      · rw [if_neg e2, ← M.pb (show w - 2 < 5 by omega)]
        have := q_aucB Q S M.2.2.1 M.1 (b := w - 2) (by omega)
        rw [show w - 2 + 2 = w by omega] at this
        exact this
theorem hx_auction (L : LV n B T h) (hB : B ≤ 2000) (W : FN n h) (hr : okR cM sM h 1 6 = true) (hO : isK h 125 kc_Out = true) (M : MX b9 x9 p9 m h) (x : Int32) : ∃ k h', (∀ Q, WP Gm j_Law_auction 0 [some (.inr (.inl (some 1))), some (.inl x), some (.inr (.inl (some 125))), none] [] h Q = Q (.inl (some (.inl k))) h') ∧ CC n (T + 1) h h' ∧ (((decide (0 ≤ x) && decide (x ≤ 6)) = false ∧ k = 1) ∨ ∃ w, w ≤ 6 ∧ x = ii w ∧ k = 0 ∧ gL h' 125 0 = (auc9 b9 x9 p9 m w).toInt64) := by
  have S := L.1.1.1
  rcases cx_auction L hB W hr M x with ⟨a1, h1, r1, cc⟩ | ⟨w, w1, w2, r1⟩
  · refine ⟨1, h1, fun Q => ?_, cc, Or.inl ⟨a1, rfl⟩⟩
    simp only [↓e_Law_auction_0, ↓e_Law_auction_1, ↓e_Law_auction_2, ↓e_Law_auction_3, ↓e_Law_auction_6, ↓e_Law_auction_7, ↓e_Law_auction_10, ↓e_Law_auction_13, ↓e_Law_auction_14, ↓e_Law_auction_15, ↓e_Law_auction_16, ↓e_Law_auction_17, not_true_eq_false, not_false_eq_true, one0, true_or, or_true, eq_self, bI_z, bI_nz, bI_o, b_ft, bI_1, bI_0, ↓kC_l, ↓kC_r, Option.toList_some, Option.toList_none, List.cons_append, List.nil_append, s1_0, s1_1i, s1_1r, s1_1w, s1_1n, s1_s, s2_0, s2_1i, s2_1r, s2_1w, s2_1n, s2_s, gI_sI, gI_sR, gI_sL, gI_sD, gR_sI, gR_sR, gR_sL, gR_sD, gL_sI, gL_sR, gL_sL, gL_sD, gD_sI, gD_sR, gD_sL, gD_sD, isK_sI, isK_sR, isK_sL, isK_sD, inL_sI, inL_sR, inL_sL, inL_sD, nx_sI, nx_sR, nx_sL, nx_sD, kd_sI, kd_sR, kd_sL, kd_sD, ln_sI, ln_sR, ln_sL, ln_sD, ↓reduceIte, c8_n, c8_1, c8_2, c8_3, c8_4, Nat.reduceAdd, k_s S, r1, (show mHx_Law_auction 0 = some (14, 3) from rfl), ne_eq, Nat.reduceEqDiff, true_and]
  · refine ⟨0, sL h 125 0 (auc9 b9 x9 p9 m w).toInt64, fun Q => ?_, cc_sL (CC.refl L hB W) _ _ _ (by omega), Or.inr ⟨w, w1, w2, rfl, by rw [gL_sL, if_pos ⟨rfl, rfl⟩]⟩⟩
    simp only [↓e_Law_auction_0, ↓e_Law_auction_1, ↓e_Law_auction_2, ↓e_Law_auction_3, ↓e_Law_auction_6, ↓e_Law_auction_7, ↓e_Law_auction_10, ↓e_Law_auction_13, ↓e_Law_auction_14, ↓e_Law_auction_15, ↓e_Law_auction_16, ↓e_Law_auction_17, not_true_eq_false, not_false_eq_true, one0, true_or, or_true, eq_self, bI_z, bI_nz, bI_o, b_ft, bI_1, bI_0, ↓kC_l, ↓kC_r, Option.toList_some, Option.toList_none, List.cons_append, List.nil_append, s1_0, s1_1i, s1_1r, s1_1w, s1_1n, s1_s, s2_0, s2_1i, s2_1r, s2_1w, s2_1n, s2_s, gI_sI, gI_sR, gI_sL, gI_sD, gR_sI, gR_sR, gR_sL, gR_sD, gL_sI, gL_sR, gL_sL, gL_sD, gD_sI, gD_sR, gD_sL, gD_sD, isK_sI, isK_sR, isK_sL, isK_sD, inL_sI, inL_sR, inL_sL, inL_sD, nx_sI, nx_sR, nx_sL, nx_sD, kd_sI, kd_sR, kd_sL, kd_sD, ln_sI, ln_sR, ln_sL, ln_sD, ↓reduceIte, c8_n, c8_1, c8_2, c8_3, c8_4, Nat.reduceAdd, k_s S, r1, hO]
end XM4
