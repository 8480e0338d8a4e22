/-! pmnode: the reference's call of node -/
section MNODE
variable {τ : Nat → Nat} {n A c B : Nat} {K : Int32} {p : Nat → Nat} {h h' h2 : Hp}
def ppn (p : Nat → Nat) (n q : Nat) : Nat → Nat := fun j => if j = n then q else p j
theorem ppn_eq {q : Nat} : ppn p n q n = q := if_pos rfl
theorem ppn_ne {q i : Nat} (hi : ¬ i = n) : ppn p n q i = p i := if_neg hi
def tpn (τ : Nat → Nat) (n q : Nat) : Nat → Nat := fun x => if x = q then 16 + 8 * n else if x = q + 1 then 17 + 8 * n else if x = q + 2 then 18 + 8 * n else if x = q + 3 then 19 + 8 * n else τ x
theorem tpn_ne {q x : Nat} (hx : x < q ∨ q + 4 ≤ x) : tpn τ n q x = τ x := by
  unfold tpn
  rw [if_neg (by omega), if_neg (by omega), if_neg (by omega), if_neg (by omega)]
theorem tpn_0 {q : Nat} : tpn τ n q q = 16 + 8 * n := if_pos rfl
theorem tpn_1 {q : Nat} : tpn τ n q (q + 1) = 17 + 8 * n := by
  unfold tpn
  rw [if_neg (by omega), if_pos rfl]
theorem tpn_2 {q : Nat} : tpn τ n q (q + 2) = 18 + 8 * n := by
  unfold tpn
  rw [if_neg (by omega), if_neg (by omega), if_pos rfl]
theorem tpn_3 {q : Nat} : tpn τ n q (q + 3) = 19 + 8 * n := by
  unfold tpn
  rw [if_neg (by omega), if_neg (by omega), if_neg (by omega), if_pos rfl]
theorem NR.up {i : Nat} (N : NR n p h i) : NR (n + 1) p h i := fun j hj => by
  rcases N j hj with e | ⟨r, r1, r2⟩
  · exact Or.inl e
  · exact Or.inr ⟨r, by omega, r2⟩
theorem VL.up {i : Nat} (N : VL n p h i) : VL (n + 1) p h i := fun w => by
  obtain ⟨⟨x, x1, x2⟩, y⟩ := N w
  exact ⟨⟨x, by omega, x2⟩, y⟩
theorem FRf.up {f : Nat} (N : FRf n h f) : FRf (n + 1) h f := by
  obtain ⟨a, b, t, t1, t2⟩ := N
  exact ⟨a, b, t, by omega, t2⟩
/-- a new node joins the nodes -/
theorem RM.nodeAdd (R : RM τ n p A c B K h) (h8 : n < 8) {q : Nat} {g : Hp} (hq : nx h = q) (J : Jk τ h g) (N : Nc g q) (ng : nx g = q + 4) (sg : sc g ≤ sc h + 100) (hn : nx h + 100 ≤ 580300) (hs : sc h + 1000 ≤ 5700000) :
    ∃ τ' u, (∀ Q, WP Gm j_ArrayList_add_LjavalangObjectZ 0 [some (.inr (.inl (some 122))), some (.inr (.inl (some q)))] [] g Q = Q (.inl (some (.inl 1))) u) ∧ RM τ' (n + 1) (ppn p n q) A c B K u ∧ Ext τ h τ' u ∧ Ag τ (fun s => s = 1 ∨ s = 3 ∨ s = 6) h u ∧ nx u ≤ nx h + 5 ∧ sc u ≤ sc h + 110 := by
  have F := R.F
  have f125 := F.1
  obtain ⟨k0, ⟨r4, r16, r17⟩, ⟨kc, lc⟩, ⟨kr, lr⟩, Lq, vr, v7, v11⟩ := N
  obtain ⟨c0, hc0, L⟩ := R.nl
  have F1 : Fs (tpn τ n q) g := by
    refine ⟨by omega, fun x hx => ?_, fun x hx => ?_, ?_, ?_, ?_, ?_⟩
    · rw [tpn_ne (by omega)]; exact F.j (by omega)
    · rw [tpn_ne (by omega)]; exact F.2.2.1 x hx
    · rw [tpn_ne (by omega)]; exact R.t1
    · rw [tpn_ne (by omega)]; exact R.t2
    · rw [tpn_ne (by omega)]; exact R.t3
    · rw [tpn_ne (by omega)]; exact R.t4
  have X1 : Ext τ h (tpn τ n q) g := ⟨fun z hz => ⟨tpn_ne (by omega), (J.1.1 z hz).2.1, (J.1.1 z hz).2.2⟩, by omega⟩
  have L1 : Lst (tpn τ n q) g 122 6 (fun j f => f = ppn p n q j) n c0 := (L.fr X1 J.2 (by rw [R.t2]; omega) (by omega) (fun _ _ _ w => w)).mono fun j f hj w => by rw [ppn_ne (by omega)]; exact w
  have any : isAny g (some q) = true := by
    obtain ⟨b1, b2⟩ := isK_spec k0
    unfold isAny
    simp only [Bool.and_eq_true, decide_eq_true_eq]
    exact ⟨⟨b1, by omega⟩, Or.inl (by rw [b2]; decide)⟩
  obtain ⟨τ', u, u1, X2, u3, F2, G2, ⟨c', c1, Lu⟩, nu, su⟩ := q_zadd F1 L1 (by omega) (by omega) (by omega) any (show q = ppn p n q n from ppn_eq.symm) (by omega)
  have t122 : tpn τ n q 122 = 3 := by rw [tpn_ne (by omega)]; exact R.t2
  rw [t122] at G2
  have X : Ext τ h τ' u := X1.trans X2
  have G : Ag τ (fun s => s = 1 ∨ s = 3 ∨ s = 6) h u := (J.2.mono fun s w => Or.inl w).trans F X1 (Or.inl rfl) G2
  have role : ∀ f, nx h ≤ f → τ' f = 1 ∨ τ' f = 6 ∨ (16 ≤ τ' f ∧ τ' f < 20 + 8 * n) := fun f hf => by
    have base : tpn τ n q f = 1 ∨ (16 ≤ tpn τ n q f ∧ tpn τ n q f < 20 + 8 * n) := by
      by_cases e : q + 4 ≤ f
      · rw [tpn_ne (by omega)]
        exact Or.inl (F.j hf)
      · have : f = q ∨ f = q + 1 ∨ f = q + 2 ∨ f = q + 3 := by omega
        rcases this with rfl | rfl | rfl | rfl
        · rw [tpn_0]; omega
        · rw [tpn_1]; omega
        · rw [tpn_2]; omega
        · rw [tpn_3]; omega
    rcases u3 with rfl | rfl
    · omega
    · by_cases e : f = nx g
      · exact Or.inr (Or.inl (by rw [e]; exact upr_eq))
      · rw [upr_ne e]
        omega
  have gu : ∀ j x, x < 4 → gI u (q + x) j = gI g (q + x) j ∧ gR u (q + x) j = gR g (q + x) j := fun j x hx => by
    have e : ¬ (tpn τ n q (q + x) = 1 ∨ tpn τ n q (q + x) = 3 ∨ tpn τ n q (q + x) = 6) := by
      have : x = 0 ∨ x = 1 ∨ x = 2 ∨ x = 3 := by omega
      rcases this with rfl | rfl | rfl | rfl
      · rw [Nat.add_zero, tpn_0]; omega
      · rw [tpn_1]; omega
      · rw [tpn_2]; omega
      · rw [tpn_3]; omega
    exact ⟨(G2 (q + x) e j).1, (G2 (q + x) e j).2.1⟩
  have tu : ∀ x, x < 4 → τ' (q + x) = tpn τ n q (q + x) := fun x hx => (X2.1 (q + x) (by omega)).1
  refine ⟨τ', u, u1, ?_, X, G, by omega, by omega⟩
  obtain ⟨-, M, N9, D, Fr9, AL1, AE1, BL1, BE1⟩ := R
  refine ⟨F2, M.fr F X G (by omega), ⟨by omega, c', by omega, Lu⟩, fun i hi => ?_, fun f hf => ?_, AL1.fr F X G (by omega) (by omega), fun f hf => ?_, BL1.fr F X G (by omega) (by omega), fun f hf => ?_⟩
  · by_cases e : i = n
    · subst e
      have pe : ppn p i q i = q := ppn_eq
      have e0 := tu 0 (by omega)
      have e1 := tu 1 (by omega)
      have e2 := tu 2 (by omega)
      have e3 := tu 3 (by omega)
      rw [Nat.add_zero, tpn_0] at e0
      rw [tpn_1] at e1
      rw [tpn_2] at e2
      rw [tpn_3] at e3
      have g0 := fun j => gu j 0 (by omega)
      simp only [Nat.add_zero] at g0
      refine ⟨?_, ?_, ?_, ?_, ?_⟩
      · unfold NS
        rw [pe]
        exact ⟨⟨e0, e1, e2, e3⟩, X2.k k0, ⟨by rw [(g0 4).2]; exact r4, by rw [(g0 16).2]; exact r16, by rw [(g0 17).2]; exact r17⟩, ⟨X2.k kc, by rw [X2.l kc]; exact lc⟩, X2.k kr, by rw [X2.l kr]; exact lr⟩
      · intro j hj
        rw [pe]
        exact Or.inl (by rw [(gu j 3 (by omega)).1]; exact vr j hj)
      · unfold QL
        rw [pe]
        exact ⟨0, 0, by omega, Or.inl rfl, eD, ⟨X2.k Lq.k, by rw [(gu 1 1 (by omega)).2]; exact Lq.r, by rw [(gu 2 1 (by omega)).1]; exact Lq.s, by omega, Or.inl ⟨rfl, rfl⟩⟩, Or.inl ⟨rfl, rfl⟩, fun j hj => absurd hj (by omega)⟩
      · intro w
        rw [pe, (g0 7).1, v7] at w
        exact absurd w (by decide)
      · refine ⟨0, by omega, ?_⟩
        rw [pe, (g0 11).1, v11]
        rfl
    · have hi2 : i < n := by omega
      obtain ⟨d1, d2, d3, d4, d5⟩ := D i hi2
      have pe : ppn p n q i = p i := ppn_ne e
      have a1 := d1.fr X G (by omega)
      have a2 := (d2.fr d1 G (by omega)).up
      have a3 := d3.fr d1 X G (by omega) (by omega)
      have a4 := (d4.fr d1 G (by omega) (by omega)).up
      have a5 := d5.fr d1 G (by omega)
      unfold NS NR QL VL NA at *
      rw [pe]
      exact ⟨a1, a2, a3, a4, a5⟩
  · by_cases hlt : f < nx h
    · rw [(X.1 f hlt).1] at hf
      exact ((Fr9 f hf).fr X G (by omega)).up
    · have := role f (by omega)
      omega
  · by_cases hlt : f < nx h
    · rw [(X.1 f hlt).1] at hf
      exact (AE1 f hf).fr X
    · have := role f (by omega)
      omega
  · by_cases hlt : f < nx h
    · rw [(X.1 f hlt).1] at hf
      exact (BE1 f hf).fr X G (by omega)
    · have := role f (by omega)
      omega
theorem Jk.s0 (x : Jk τ h h') : Ag τ S0 h h' := x.2.mono fun s w => by unfold S0; omega
def nodeOK (x y r : Int32) : Bool := (decide (0 ≤ x) && decide (x ≤ 29)) && ((decide (0 ≤ y) && decide (y ≤ 29)) && (decide (1 ≤ r) && decide (r ≤ 42)))
theorem q_mnode (R : RM τ n p (8 * B) c B K h) (hn1 : nx h + 1000 ≤ 580300) (hs1 : sc h + 7000 ≤ 5700000) (x y r : Int32) {ch : Int32} (hc : ch = 0 ∨ ch = 1) :
    ∃ v h', (∀ Q, WP Gm j_Mdl_node 0 [some (.inr (.inl (some 121))), some (.inl x), some (.inl y), some (.inl r), some (.inl ch)] [] h Q = Q (.inl (some (.inl v))) h') ∧ Mo τ (if nodeOK x y r = true ∧ n < 8 then n + 1 else n) c B K h h' ∧
      (gI h' 121 0 = if nodeOK x y r = true then (if n < 8 then 0 else 2) else 1) ∧ (nodeOK x y r = true ∧ n < 8 → v = ii n) := by
  have hn := R.n8
  have F := R.F
  cases hb : nodeOK x y r with
  | false =>
    rw [if_neg (by simp), if_neg (by simp)]
    refine ⟨0, sI (sI h 121 0 0) 121 0 1, fun Q => ?_, Mo.sw R (R.sth2 0 1) (by show nx h ≤ _; omega) (by show sc h ≤ _; omega), by rw [gI_sI, if_pos ⟨rfl, rfl⟩], fun w => by simp at w⟩
    unfold nodeOK at hb
    cases e1 : (decide (0 ≤ x) && decide (x ≤ 29)) with
    | false => simp only [↓e_Mdl_node_0, ↓e_Mdl_node_1, ↓e_Mdl_node_2, ↓e_Mdl_node_3, ↓e_Mdl_node_5, ↓e_Mdl_node_8, ↓e_Mdl_node_11, ↓e_Mdl_node_12, ↓e_Mdl_node_13, ↓e_Mdl_node_15, ↓e_Mdl_node_18, ↓e_Mdl_node_21, ↓e_Mdl_node_22, ↓e_Mdl_node_23, ↓e_Mdl_node_25, ↓e_Mdl_node_28, ↓e_Mdl_node_31, ↓e_Mdl_node_32, ↓e_Mdl_node_35, ↓e_Mdl_node_36, ↓e_Mdl_node_37, ↓e_Mdl_node_40, ↓e_Mdl_node_43, ↓e_Mdl_node_44, ↓e_Mdl_node_45, ↓e_Mdl_node_48, ↓e_Mdl_node_51, ↓e_Mdl_node_53, ↓e_Mdl_node_56, ↓e_Mdl_node_57, ↓e_Mdl_node_60, ↓e_Mdl_node_61, ↓e_Mdl_node_62, ↓e_Mdl_node_65, ↓e_Mdl_node_68, ↓e_Mdl_node_69, ↓e_Mdl_node_70, ↓e_Mdl_node_71, ↓e_Mdl_node_74, ↓e_Mdl_node_77, ↓e_Mdl_node_78, ↓e_Mdl_node_79, ↓e_Mdl_node_80, ↓e_Mdl_node_81, ↓e_Mdl_node_83, ↓e_Mdl_node_86, ↓e_Mdl_node_89, ↓e_Mdl_node_90, ↓e_Mdl_node_91, ↓e_Mdl_node_94, ↓e_Mdl_node_97, ↓e_Mdl_node_98, ↓e_Mdl_node_99, not_true_eq_false, not_false_eq_true, one0, true_or, or_true, eq_self, bI_z, bI_nz, bI_o, b_ft, bI_1, bI_0, ↓kC_l, ↓kC_r, Option.toList_some, Option.toList_none, List.cons_append, List.nil_append, s1_0, s1_1i, s1_1r, s1_1w, s1_1n, s1_s, s2_0, s2_1i, s2_1r, s2_1w, s2_1n, s2_s, gI_sI, gI_sR, gI_sL, gI_sD, gR_sI, gR_sR, gR_sL, gR_sD, gL_sI, gL_sR, gL_sL, gL_sD, gD_sI, gD_sR, gD_sL, gD_sD, isK_sI, isK_sR, isK_sL, isK_sD, inL_sI, inL_sR, inL_sL, inL_sD, nx_sI, nx_sR, nx_sL, nx_sD, kd_sI, kd_sR, kd_sL, kd_sD, ln_sI, ln_sR, ln_sL, ln_sD, ↓reduceIte, c8_n, c8_1, c8_2, c8_3, c8_4, Nat.reduceAdd, q_misIn, e1, R.k, q_stT _ R]
    | true =>
      cases e2 : (decide (0 ≤ y) && decide (y ≤ 29)) with
      | false => simp only [↓e_Mdl_node_0, ↓e_Mdl_node_1, ↓e_Mdl_node_2, ↓e_Mdl_node_3, ↓e_Mdl_node_5, ↓e_Mdl_node_8, ↓e_Mdl_node_11, ↓e_Mdl_node_12, ↓e_Mdl_node_13, ↓e_Mdl_node_15, ↓e_Mdl_node_18, ↓e_Mdl_node_21, ↓e_Mdl_node_22, ↓e_Mdl_node_23, ↓e_Mdl_node_25, ↓e_Mdl_node_28, ↓e_Mdl_node_31, ↓e_Mdl_node_32, ↓e_Mdl_node_35, ↓e_Mdl_node_36, ↓e_Mdl_node_37, ↓e_Mdl_node_40, ↓e_Mdl_node_43, ↓e_Mdl_node_44, ↓e_Mdl_node_45, ↓e_Mdl_node_48, ↓e_Mdl_node_51, ↓e_Mdl_node_53, ↓e_Mdl_node_56, ↓e_Mdl_node_57, ↓e_Mdl_node_60, ↓e_Mdl_node_61, ↓e_Mdl_node_62, ↓e_Mdl_node_65, ↓e_Mdl_node_68, ↓e_Mdl_node_69, ↓e_Mdl_node_70, ↓e_Mdl_node_71, ↓e_Mdl_node_74, ↓e_Mdl_node_77, ↓e_Mdl_node_78, ↓e_Mdl_node_79, ↓e_Mdl_node_80, ↓e_Mdl_node_81, ↓e_Mdl_node_83, ↓e_Mdl_node_86, ↓e_Mdl_node_89, ↓e_Mdl_node_90, ↓e_Mdl_node_91, ↓e_Mdl_node_94, ↓e_Mdl_node_97, ↓e_Mdl_node_98, ↓e_Mdl_node_99, not_true_eq_false, not_false_eq_true, one0, true_or, or_true, eq_self, bI_z, bI_nz, bI_o, b_ft, bI_1, bI_0, ↓kC_l, ↓kC_r, Option.toList_some, Option.toList_none, List.cons_append, List.nil_append, s1_0, s1_1i, s1_1r, s1_1w, s1_1n, s1_s, s2_0, s2_1i, s2_1r, s2_1w, s2_1n, s2_s, gI_sI, gI_sR, gI_sL, gI_sD, gR_sI, gR_sR, gR_sL, gR_sD, gL_sI, gL_sR, gL_sL, gL_sD, gD_sI, gD_sR, gD_sL, gD_sD, isK_sI, isK_sR, isK_sL, isK_sD, inL_sI, inL_sR, inL_sL, inL_sD, nx_sI, nx_sR, nx_sL, nx_sD, kd_sI, kd_sR, kd_sL, kd_sD, ln_sI, ln_sR, ln_sL, ln_sD, ↓reduceIte, c8_n, c8_1, c8_2, c8_3, c8_4, Nat.reduceAdd, q_misIn, e1, e2, R.k, q_stT _ R]
      | true =>
        cases e3 : (decide (1 ≤ r) && decide (r ≤ 42)) with
        | false => simp only [↓e_Mdl_node_0, ↓e_Mdl_node_1, ↓e_Mdl_node_2, ↓e_Mdl_node_3, ↓e_Mdl_node_5, ↓e_Mdl_node_8, ↓e_Mdl_node_11, ↓e_Mdl_node_12, ↓e_Mdl_node_13, ↓e_Mdl_node_15, ↓e_Mdl_node_18, ↓e_Mdl_node_21, ↓e_Mdl_node_22, ↓e_Mdl_node_23, ↓e_Mdl_node_25, ↓e_Mdl_node_28, ↓e_Mdl_node_31, ↓e_Mdl_node_32, ↓e_Mdl_node_35, ↓e_Mdl_node_36, ↓e_Mdl_node_37, ↓e_Mdl_node_40, ↓e_Mdl_node_43, ↓e_Mdl_node_44, ↓e_Mdl_node_45, ↓e_Mdl_node_48, ↓e_Mdl_node_51, ↓e_Mdl_node_53, ↓e_Mdl_node_56, ↓e_Mdl_node_57, ↓e_Mdl_node_60, ↓e_Mdl_node_61, ↓e_Mdl_node_62, ↓e_Mdl_node_65, ↓e_Mdl_node_68, ↓e_Mdl_node_69, ↓e_Mdl_node_70, ↓e_Mdl_node_71, ↓e_Mdl_node_74, ↓e_Mdl_node_77, ↓e_Mdl_node_78, ↓e_Mdl_node_79, ↓e_Mdl_node_80, ↓e_Mdl_node_81, ↓e_Mdl_node_83, ↓e_Mdl_node_86, ↓e_Mdl_node_89, ↓e_Mdl_node_90, ↓e_Mdl_node_91, ↓e_Mdl_node_94, ↓e_Mdl_node_97, ↓e_Mdl_node_98, ↓e_Mdl_node_99, not_true_eq_false, not_false_eq_true, one0, true_or, or_true, eq_self, bI_z, bI_nz, bI_o, b_ft, bI_1, bI_0, ↓kC_l, ↓kC_r, Option.toList_some, Option.toList_none, List.cons_append, List.nil_append, s1_0, s1_1i, s1_1r, s1_1w, s1_1n, s1_s, s2_0, s2_1i, s2_1r, s2_1w, s2_1n, s2_s, gI_sI, gI_sR, gI_sL, gI_sD, gR_sI, gR_sR, gR_sL, gR_sD, gL_sI, gL_sR, gL_sL, gL_sD, gD_sI, gD_sR, gD_sL, gD_sD, isK_sI, isK_sR, isK_sL, isK_sD, inL_sI, inL_sR, inL_sL, inL_sD, nx_sI, nx_sR, nx_sL, nx_sD, kd_sI, kd_sR, kd_sL, kd_sD, ln_sI, ln_sR, ln_sL, ln_sD, ↓reduceIte, c8_n, c8_1, c8_2, c8_3, c8_4, Nat.reduceAdd, q_misIn, e1, e2, e3, R.k, q_stT _ R]
        | true =>
          rw [e1, e2, e3] at hb
          cases hb
  | true =>
    have hb2 := hb
    unfold nodeOK at hb2
    rw [Bool.and_eq_true] at hb2
    obtain ⟨e1, hb3⟩ := hb2
    rw [Bool.and_eq_true] at hb3
    obtain ⟨e2, e3⟩ := hb3
    have R0 : RM τ n p (8 * B) c B K (sI h 121 0 0) := R.th
    have e8 : (ii n = (8 : Int32)) = (n = 8) := ii_inj (j := 8) (by omega) (by omega)
    by_cases h8 : n = 8
    · have e8' : (ii n = (8 : Int32)) = True := by rw [e8]; exact eq_true h8
      have n8 : ¬ n < 8 := by omega
      rw [if_neg (by omega), if_pos rfl, if_neg n8]
      refine ⟨0, sI (sI h 121 0 0) 121 0 2, fun Q => ?_, Mo.sw R (R.sth2 0 2) (by show nx h ≤ _; omega) (by show sc h ≤ _; omega), by rw [gI_sI, if_pos ⟨rfl, rfl⟩], fun w => absurd w.2 n8⟩
      simp only [↓e_Mdl_node_0, ↓e_Mdl_node_1, ↓e_Mdl_node_2, ↓e_Mdl_node_3, ↓e_Mdl_node_5, ↓e_Mdl_node_8, ↓e_Mdl_node_11, ↓e_Mdl_node_12, ↓e_Mdl_node_13, ↓e_Mdl_node_15, ↓e_Mdl_node_18, ↓e_Mdl_node_21, ↓e_Mdl_node_22, ↓e_Mdl_node_23, ↓e_Mdl_node_25, ↓e_Mdl_node_28, ↓e_Mdl_node_31, ↓e_Mdl_node_32, ↓e_Mdl_node_35, ↓e_Mdl_node_36, ↓e_Mdl_node_37, ↓e_Mdl_node_40, ↓e_Mdl_node_43, ↓e_Mdl_node_44, ↓e_Mdl_node_45, ↓e_Mdl_node_48, ↓e_Mdl_node_51, ↓e_Mdl_node_53, ↓e_Mdl_node_56, ↓e_Mdl_node_57, ↓e_Mdl_node_60, ↓e_Mdl_node_61, ↓e_Mdl_node_62, ↓e_Mdl_node_65, ↓e_Mdl_node_68, ↓e_Mdl_node_69, ↓e_Mdl_node_70, ↓e_Mdl_node_71, ↓e_Mdl_node_74, ↓e_Mdl_node_77, ↓e_Mdl_node_78, ↓e_Mdl_node_79, ↓e_Mdl_node_80, ↓e_Mdl_node_81, ↓e_Mdl_node_83, ↓e_Mdl_node_86, ↓e_Mdl_node_89, ↓e_Mdl_node_90, ↓e_Mdl_node_91, ↓e_Mdl_node_94, ↓e_Mdl_node_97, ↓e_Mdl_node_98, ↓e_Mdl_node_99, not_true_eq_false, not_false_eq_true, one0, true_or, or_true, eq_self, bI_z, bI_nz, bI_o, b_ft, bI_1, bI_0, ↓kC_l, ↓kC_r, Option.toList_some, Option.toList_none, List.cons_append, List.nil_append, s1_0, s1_1i, s1_1r, s1_1w, s1_1n, s1_s, s2_0, s2_1i, s2_1r, s2_1w, s2_1n, s2_s, gI_sI, gI_sR, gI_sL, gI_sD, gR_sI, gR_sR, gR_sL, gR_sD, gL_sI, gL_sR, gL_sL, gL_sD, gD_sI, gD_sR, gD_sL, gD_sD, isK_sI, isK_sR, isK_sL, isK_sD, inL_sI, inL_sR, inL_sL, inL_sD, nx_sI, nx_sR, nx_sL, nx_sD, kd_sI, kd_sR, kd_sL, kd_sD, ln_sI, ln_sR, ln_sL, ln_sD, ↓reduceIte, c8_n, c8_1, c8_2, c8_3, c8_4, Nat.reduceAdd, q_misIn, e1, e2, e3, R.k, q_stF _ R, R0.k, R0.r9, R0.k122, q_nn _ R0, e8', q_rfT _ R0 (show (0 : Int32) < 2 by decide) (th0 h)]
    · have e8' : (ii n = (8 : Int32)) = False := by rw [e8]; exact eq_false h8
      have n8 : n < 8 := by omega
      rw [if_pos ⟨rfl, n8⟩, if_pos rfl, if_pos n8]
      have hr : okR cM sM (sI h 121 0 0) 1 18 = true := ok_big (by show nx h + 1 ≤ _; omega) (by show sc h + 18 ≤ _; omega)
      generalize hg0 : hN (sI h 121 0 0) kc_MNode 0 18 = g0
      have J0 : Jk τ (sI h 121 0 0) g0 := by rw [← hg0]; exact (Jk.refl _ _).hN (R0.F.j (Nat.le_refl _))
      have ng0 : nx g0 = nx h + 1 := by rw [← hg0]; rfl
      have sg0 : sc g0 = sc h + 18 := by rw [← hg0]; rfl
      have k0 : isK g0 (nx h) kc_MNode = true := by rw [← hg0]; exact isK_new
      have Fg0 : Fs τ g0 := F.same (by omega)
      obtain ⟨g, g1, J, N, ng, sg⟩ := q_zNodeInit Fg0 ng0 (F.j (Nat.le_refl _)) (by have := F.1; omega) k0 (fun j => by rw [← hg0, gI_hN, nx_sI, if_pos rfl]) (by omega) (by omega) x y r hc
      have Jg : Jk τ (sI h 121 0 0) g := J0.trans J
      obtain ⟨τ', u, u1, R2, X2, G2, n2, s2⟩ := R0.nodeAdd n8 (q := nx h) rfl Jg N ng (by show _ ≤ sc h + 100; omega) (by show nx h + 100 ≤ _; omega) (by show sc h + 1000 ≤ _; omega)
      have G3 : Ag τ S0 h u := (R.sth 0).s0.trans F (R.sth 0).1 S01 (G2.mono fun s w => by unfold S0; omega)
      have n2' : nx u ≤ nx h + 5 := n2
      have s2' : sc u ≤ sc h + 110 := s2
      have e1n : ii (n + 1) - 1 = ii n := ii_pred (k := n + 1) (by omega)
      refine ⟨ii n, u, fun Q => ?_, Mo.mk R2 ((R.sth 0).1.trans X2) G3 (by omega) (by omega), ?_, fun _ => rfl⟩
      · simp only [↓e_Mdl_node_0, ↓e_Mdl_node_1, ↓e_Mdl_node_2, ↓e_Mdl_node_3, ↓e_Mdl_node_5, ↓e_Mdl_node_8, ↓e_Mdl_node_11, ↓e_Mdl_node_12, ↓e_Mdl_node_13, ↓e_Mdl_node_15, ↓e_Mdl_node_18, ↓e_Mdl_node_21, ↓e_Mdl_node_22, ↓e_Mdl_node_23, ↓e_Mdl_node_25, ↓e_Mdl_node_28, ↓e_Mdl_node_31, ↓e_Mdl_node_32, ↓e_Mdl_node_35, ↓e_Mdl_node_36, ↓e_Mdl_node_37, ↓e_Mdl_node_40, ↓e_Mdl_node_43, ↓e_Mdl_node_44, ↓e_Mdl_node_45, ↓e_Mdl_node_48, ↓e_Mdl_node_51, ↓e_Mdl_node_53, ↓e_Mdl_node_56, ↓e_Mdl_node_57, ↓e_Mdl_node_60, ↓e_Mdl_node_61, ↓e_Mdl_node_62, ↓e_Mdl_node_65, ↓e_Mdl_node_68, ↓e_Mdl_node_69, ↓e_Mdl_node_70, ↓e_Mdl_node_71, ↓e_Mdl_node_74, ↓e_Mdl_node_77, ↓e_Mdl_node_78, ↓e_Mdl_node_79, ↓e_Mdl_node_80, ↓e_Mdl_node_81, ↓e_Mdl_node_83, ↓e_Mdl_node_86, ↓e_Mdl_node_89, ↓e_Mdl_node_90, ↓e_Mdl_node_91, ↓e_Mdl_node_94, ↓e_Mdl_node_97, ↓e_Mdl_node_98, ↓e_Mdl_node_99, not_true_eq_false, not_false_eq_true, one0, true_or, or_true, eq_self, bI_z, bI_nz, bI_o, b_ft, bI_1, bI_0, ↓kC_l, ↓kC_r, Option.toList_some, Option.toList_none, List.cons_append, List.nil_append, s1_0, s1_1i, s1_1r, s1_1w, s1_1n, s1_s, s2_0, s2_1i, s2_1r, s2_1w, s2_1n, s2_s, gI_sI, gI_sR, gI_sL, gI_sD, gR_sI, gR_sR, gR_sL, gR_sD, gL_sI, gL_sR, gL_sL, gL_sD, gD_sI, gD_sR, gD_sL, gD_sD, isK_sI, isK_sR, isK_sL, isK_sD, inL_sI, inL_sR, inL_sL, inL_sD, nx_sI, nx_sR, nx_sL, nx_sD, kd_sI, kd_sR, kd_sL, kd_sD, ln_sI, ln_sR, ln_sL, ln_sD, ↓reduceIte, c8_n, c8_1, c8_2, c8_3, c8_4, Nat.reduceAdd, q_misIn, e1, e2, e3, R.k, q_stF _ R, R0.k, R0.r9, R0.k122, q_nn _ R0, e8', q_rfF _ R0 _ (th0 h), hr, hg0, k0, g1, Jg.1.k R0.k122, u1, R2.k, R2.r9, R2.k122, q_nn _ R2, e1n]
      · rw [(G2 121 (by rw [R.t1]; omega) 0).1]
        exact th0 h
end MNODE
