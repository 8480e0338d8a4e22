/-! xas10: a node more, on both sides, in values -/
def nv9 (x y r ch : Int32) (j : Nat) : Int32 := if j = 0 then x else if j = 1 then y else if j = 2 then r else if j = 3 then ch else if j = 8 then -1 else 0
section XN0
variable {τ : Nat → Nat} {h : Hp}
theorem qx_zNodeInit (F : Fs τ h) {q : Nat} (hq : nx h = q + 1) (tq : τ q = 1) (hq2 : 121 < q) (hk : isK h q kc_MNode = true) (z : ∀ j, gI h q j = 0) (hn : nx h + 10 ≤ 580300) (hs : sc h + 100 ≤ 5700000) (x y r : Int32) {ch : Int32} (hc : ch = 0 ∨ ch = 1) :
    ∃ h', (∀ Q, WP Gm j_MNode_init 0 [some (.inr (.inl (some q))), some (.inl x), some (.inl y), some (.inl r), some (.inl ch), none] [] h Q = Q (.inl none) h') ∧ Jk τ h h' ∧ Nc h' q ∧ (∀ j, j ≤ 15 → gI h' q j = nv9 x y r ch j) ∧ (∀ j, j < 8 → gI h' (q + 2) j = -1) ∧ nx h' = q + 4 ∧ sc h' = sc h + 19 := by
  have t1 : ∀ j, q + 1 ≤ j → τ j = 1 := fun j hj => F.j (by omega)
  have hr1 : okR cM sM h 1 3 = true := ok_big (by omega) (by omega)
  have z8 : (8 : Int32).toNatClampNeg = 8 := by decide
  have l8 : ((0 : Int32) ≤ 8) = True := eq_true (by decide)
  have hD : eD = 1000000001 := rfl
  -- the list
  generalize hh1 : sI (sR (sR (sI (hN h kc_ArrayList 0 3) (q + 1) 0 0) (q + 1) 1 (some eD)) q 4 (some (q + 1))) q 8 (-1) = h1
  have J1 : Jk τ h h1 := by rw [← hh1]; exact (((((Jk.refl τ h).hN (by rw [hq]; exact t1 _ (by omega))).sI (t1 _ (by omega))).sR (t1 _ (by omega))).sR tq).sI tq
  have n1 : nx h1 = q + 2 := by rw [← hh1]; show nx h + 1 = _; omega
  have s1 : sc h1 = sc h + 3 := by rw [← hh1]; rfl
  have k1 : isK h1 q kc_MNode = true := J1.1.k hk
  have kl : isK (hN h kc_ArrayList 0 3) (q + 1) kc_ArrayList = true := by rw [← hq]; exact isK_new
  have kq0 : isK (hN h kc_ArrayList 0 3) q kc_MNode = true := by rw [isK_hN (isK_lt hk)]; exact hk
  have kl1 : isK h1 (q + 1) kc_ArrayList = true := by rw [← hh1]; exact kl
  have hr2 : okR cM sM h1 1 8 = true := ok_big (by omega) (by omega)
  generalize hh2 : sR (hN h1 100 8 8) q 16 (some (q + 2)) = h2
  have J2 : Jk τ h1 h2 := by rw [← hh2]; exact ((Jk.refl τ h1).hN (by rw [n1]; exact t1 _ (by omega))).sR tq
  have n2 : nx h2 = q + 3 := by rw [← hh2]; show nx h1 + 1 = _; omega
  have s2 : sc h2 = sc h + 11 := by rw [← hh2]; show sc h1 + 8 = _; omega
  have k2 : isK h2 q kc_MNode = true := J2.1.k k1
  have kq1 : isK (hN h1 100 8 8) q kc_MNode = true := by rw [isK_hN (isK_lt k1)]; exact k1
  have c2 : isK h2 (q + 2) 100 = true := by rw [← hh2, ← n1]; exact isK_new
  have cl2 : ln h2 (q + 2) = 8 := by rw [← hh2, ← n1]; exact if_pos rfl
  have hr3 : okR cM sM h2 1 8 = true := ok_big (by omega) (by omega)
  generalize hh3 : sI (sI (sI (sI (sR (hN h2 100 8 8) q 17 (some (q + 3))) q 0 x) q 1 y) q 2 r) q 3 ch = h3
  have J3 : Jk τ h2 h3 := by rw [← hh3]; exact ((((((Jk.refl τ h2).hN (by rw [n2]; exact t1 _ (by omega))).sR tq).sI tq).sI tq).sI tq).sI tq
  have n3 : nx h3 = q + 4 := by rw [← hh3]; show nx h2 + 1 = _; omega
  have s3 : sc h3 = sc h + 19 := by rw [← hh3]; show sc h2 + 8 = _; omega
  have k3 : isK h3 q kc_MNode = true := J3.1.k k2
  have kq2 : isK (hN h2 100 8 8) q kc_MNode = true := by rw [isK_hN (isK_lt k2)]; exact k2
  have d3 : isK h3 (q + 3) 100 = true := by rw [← hh3, ← n2]; exact isK_new
  have dl3 : ln h3 (q + 3) = 8 := by rw [← hh3, ← n2]; exact if_pos rfl
  have c3 : isK h3 (q + 2) 100 = true := J3.1.k c2
  have cl3 : ln h3 (q + 2) = 8 := by rw [J3.1.l c2]; exact cl2
  have kl3 : isK h3 (q + 1) kc_ArrayList = true := J3.1.k (J2.1.k kl1)
  have q0 : ¬ q = nx h1 := by omega
  have q1' : ¬ q = nx h2 := by omega
  have q2' : ¬ q = nx h := by omega
  have r4 : gR h3 q 4 = some (q + 1) := by
    rw [← hh3, gR_sI, gR_sI, gR_sI, gR_sI, gR_sR, if_neg (by omega), gR_hN, if_neg q1', ← hh2, gR_sR, if_neg (by omega), gR_hN, if_neg q0, ← hh1, gR_sI, gR_sR, if_pos ⟨rfl, rfl⟩]
  have r16 : gR h3 q 16 = some (q + 2) := by
    rw [← hh3, gR_sI, gR_sI, gR_sI, gR_sI, gR_sR, if_neg (by omega), gR_hN, if_neg q1', ← hh2, gR_sR, if_pos ⟨rfl, rfl⟩]
  have r17 : gR h3 q 17 = some (q + 3) := by
    rw [← hh3, gR_sI, gR_sI, gR_sI, gR_sI, gR_sR, if_pos ⟨rfl, rfl⟩]
  have lr : gR h3 (q + 1) 1 = some eD := by
    rw [← hh3, gR_sI, gR_sI, gR_sI, gR_sI, gR_sR, if_neg (by omega), gR_hN, if_neg (by omega), ← hh2, gR_sR, if_neg (by omega), gR_hN, if_neg (by omega), ← hh1, gR_sI, gR_sR, if_neg (by omega), gR_sR, if_pos ⟨rfl, rfl⟩]
  have ls2 : gI h3 (q + 1) 2 = ii 0 := by
    rw [← hh3, gI_sI, if_neg (by omega), gI_sI, if_neg (by omega), gI_sI, if_neg (by omega), gI_sI, if_neg (by omega), gI_sR, gI_hN, if_neg (by omega), ← hh2, gI_sR, gI_hN, if_neg (by omega), ← hh1, gI_sI, if_neg (by omega), gI_sR, gI_sR, gI_sI, if_neg (by omega), gI_hN, if_pos (by omega)]
    rfl
  have lz : ∀ j, ¬ j = 8 → ¬ j ≤ 3 → gI h3 q j = 0 := fun j hj hj2 => by
    rw [← hh3, gI_sI, if_neg (by omega), gI_sI, if_neg (by omega), gI_sI, if_neg (by omega), gI_sI, if_neg (by omega), gI_sR, gI_hN, if_neg (by omega), ← hh2, gI_sR, gI_hN, if_neg (by omega), ← hh1, gI_sI, if_neg (by omega), gI_sR, gI_sR, gI_sI, if_neg (by omega), gI_hN, if_neg (by omega)]
    exact z j
  have lv : ∀ j, j ≤ 15 → gI h3 q j = nv9 x y r ch j := fun j hj => by
    unfold nv9
    by_cases j0 : j ≤ 3
    · have : j = 0 ∨ j = 1 ∨ j = 2 ∨ j = 3 := by omega
      rw [← hh3]
      rcases this with rfl | rfl | rfl | rfl <;> simp only [gI_sI, Nat.reduceEqDiff, and_false, and_self, ↓reduceIte]
    · by_cases j8 : j = 8
      · subst j8
        rw [← hh3, gI_sI, if_neg (by omega), gI_sI, if_neg (by omega), gI_sI, if_neg (by omega), gI_sI, if_neg (by omega), gI_sR, gI_hN, if_neg (by omega), ← hh2, gI_sR, gI_hN, if_neg (by omega), ← hh1, gI_sI, if_pos ⟨rfl, rfl⟩]
        rfl
      · rw [lz j j8 j0, if_neg (by omega), if_neg (by omega), if_neg (by omega), if_neg (by omega), if_neg j8]
  obtain ⟨g, e1, J, gk, gR4, ng, sg, gz, gv, gw⟩ := loopR (fun Q k (g : Hp) => WP Gm j_MNode_init 60 [some (.inr (.inl (some q))), some (.inl x), some (.inl y), some (.inl r), some (.inl ch), some (.inl (ii k))] [] g Q)
    (fun k g => Jk τ h3 g ∧ isK g q kc_MNode = true ∧ (∀ b j, gR g b j = gR h3 b j) ∧ nx g = q + 4 ∧ sc g = sc h + 19 ∧ (∀ b j, b < q + 2 → gI g b j = gI h3 b j) ∧ (∀ j, j < k → gI g (q + 3) j = -1) ∧ ∀ j, j < k → gI g (q + 2) j = -1) 8
    (fun k g hk8 hI => by
      obtain ⟨J, gk, gR4, ng, sg, gz, gv, gw⟩ := hI
      have kc2 : isK g (q + 2) 100 = true := J.1.k c3
      have kd2 : isK g (q + 3) 100 = true := J.1.k d3
      have i2 : inL g (q + 2) (ii k) = true := inL_n (by omega) (by rw [J.1.l c3, cl3]; exact hk8)
      have i3 : inL g (q + 3) (ii k) = true := inL_n (by omega) (by rw [J.1.l d3, dl3]; exact hk8)
      have n02 : (q + 2 = 0) = False := eq_false (by omega)
      have n03 : (q + 3 = 0) = False := eq_false (by omega)
      refine ⟨sI (sI g (q + 2) k (-1)) (q + 3) k (-1), fun Q => ?_, (J.sI (t1 _ (by omega))).sI (t1 _ (by omega)), gk, gR4, ng, sg, fun b j hb => ?_, fun j hj => ?_, fun j hj => ?_⟩
      · rw [e_MNode_init_60]
        simp only [↓e_MNode_init_0, ↓e_MNode_init_1, ↓e_MNode_init_4, ↓e_MNode_init_5, ↓e_MNode_init_8, ↓e_MNode_init_9, ↓e_MNode_init_12, ↓e_MNode_init_15, ↓e_MNode_init_16, ↓e_MNode_init_17, ↓e_MNode_init_20, ↓e_MNode_init_21, ↓e_MNode_init_23, ↓e_MNode_init_25, ↓e_MNode_init_28, ↓e_MNode_init_29, ↓e_MNode_init_31, ↓e_MNode_init_33, ↓e_MNode_init_36, ↓e_MNode_init_37, ↓e_MNode_init_38, ↓e_MNode_init_41, ↓e_MNode_init_42, ↓e_MNode_init_43, ↓e_MNode_init_46, ↓e_MNode_init_47, ↓e_MNode_init_48, ↓e_MNode_init_51, ↓e_MNode_init_52, ↓e_MNode_init_54, ↓e_MNode_init_57, ↓e_MNode_init_58, ↓e_MNode_init_62, ↓e_MNode_init_64, ↓e_MNode_init_67, ↓e_MNode_init_68, ↓e_MNode_init_71, ↓e_MNode_init_73, ↓e_MNode_init_74, ↓e_MNode_init_75, ↓e_MNode_init_76, ↓e_MNode_init_79, ↓e_MNode_init_81, ↓e_MNode_init_82, ↓e_MNode_init_83, ↓e_MNode_init_86, ↓e_MNode_init_89, not_true_eq_false, not_false_eq_true, one0, true_or, or_true, eq_self, bI_z, bI_nz, bI_o, b_ft, bI_1, bI_0, ↓kC_l, ↓kC_r, Option.toList_some, Option.toList_none, List.cons_append, List.nil_append, s1_0, s1_1i, s1_1r, s1_1w, s1_1n, s1_s, s2_0, s2_1i, s2_1r, s2_1w, s2_1n, s2_s, gI_sI, gI_sR, gI_sL, gI_sD, gR_sI, gR_sR, gR_sL, gR_sD, gL_sI, gL_sR, gL_sL, gL_sD, gD_sI, gD_sR, gD_sL, gD_sD, isK_sI, isK_sR, isK_sL, isK_sD, inL_sI, inL_sR, inL_sL, inL_sD, nx_sI, nx_sR, nx_sL, nx_sD, kd_sI, kd_sR, kd_sL, kd_sD, ln_sI, ln_sR, ln_sL, ln_sD, ↓reduceIte, c8_n, c8_1, c8_2, c8_3, c8_4, Nat.reduceAdd, lle_f (show 8 < 2147483648 by omega) hk8, gk, gR4, r16, r17, kc2, kd2, i2, i3, n02, n03, ii_nat (show k < 2147483648 by omega), ii_succ, (show ((8 : Int32) ≤ ii k) = False from lle_f (n := 8) (by omega) hk8)]
      · rw [gI_sI, if_neg (by omega), gI_sI, if_neg (by omega)]
        exact gz b j hb
      · rw [gI_sI]
        by_cases e : j = k
        · rw [if_pos ⟨rfl, e⟩]
        · rw [if_neg (fun w => e w.2), gI_sI, if_neg (by omega)]
          exact gv j (by omega)
      · rw [gI_sI, if_neg (by omega), gI_sI]
        by_cases e : j = k
        · rw [if_pos ⟨rfl, e⟩]
        · rw [if_neg (fun w => e w.2)]
          exact gw j (by omega)) 8 0 h3 (by omega) ⟨Jk.refl τ h3, k3, fun _ _ => rfl, n3, s3, fun _ _ _ => rfl, fun j hj => absurd hj (by omega), fun j hj => absurd hj (by omega)⟩
  have Jg := J1.trans (J2.trans (J3.trans J))
  refine ⟨g, fun Q => ?_, Jg, ⟨gk, ⟨by rw [gR4]; exact r4, by rw [gR4]; exact r16, by rw [gR4]; exact r17⟩, ⟨J.1.k c3, by rw [J.1.l c3]; exact cl3⟩, ⟨J.1.k d3, by rw [J.1.l d3]; exact dl3⟩, ⟨J.1.k kl3, by rw [gR4]; exact lr, by rw [gz _ _ (by omega)]; exact ls2, by omega, Or.inl ⟨rfl, rfl⟩⟩, gv, by rw [gz _ _ (by omega)]; exact lz 7 (by omega) (by omega), by rw [gz _ _ (by omega)]; exact lz 11 (by omega) (by omega)⟩, fun j hj => by rw [gz _ _ (by omega)]; exact lv j hj, gw, ng, sg⟩
  have hc' : (ch = 0 ∨ ch = 1) = True := eq_true hc
  have pre : WP Gm j_MNode_init 0 [some (.inr (.inl (some q))), some (.inl x), some (.inl y), some (.inl r), some (.inl ch), none] [] h Q = WP Gm j_MNode_init 60 [some (.inr (.inl (some q))), some (.inl x), some (.inl y), some (.inl r), some (.inl ch), some (.inl (ii 0))] [] h3 Q := by
    simp only [↓e_MNode_init_0, ↓e_MNode_init_1, ↓e_MNode_init_4, ↓e_MNode_init_5, ↓e_MNode_init_8, ↓e_MNode_init_9, ↓e_MNode_init_12, ↓e_MNode_init_15, ↓e_MNode_init_16, ↓e_MNode_init_17, ↓e_MNode_init_20, ↓e_MNode_init_21, ↓e_MNode_init_23, ↓e_MNode_init_25, ↓e_MNode_init_28, ↓e_MNode_init_29, ↓e_MNode_init_31, ↓e_MNode_init_33, ↓e_MNode_init_36, ↓e_MNode_init_37, ↓e_MNode_init_38, ↓e_MNode_init_41, ↓e_MNode_init_42, ↓e_MNode_init_43, ↓e_MNode_init_46, ↓e_MNode_init_47, ↓e_MNode_init_48, ↓e_MNode_init_51, ↓e_MNode_init_52, ↓e_MNode_init_54, ↓e_MNode_init_57, ↓e_MNode_init_58, ↓e_MNode_init_62, ↓e_MNode_init_64, ↓e_MNode_init_67, ↓e_MNode_init_68, ↓e_MNode_init_71, ↓e_MNode_init_73, ↓e_MNode_init_74, ↓e_MNode_init_75, ↓e_MNode_init_76, ↓e_MNode_init_79, ↓e_MNode_init_81, ↓e_MNode_init_82, ↓e_MNode_init_83, ↓e_MNode_init_86, ↓e_MNode_init_89, not_true_eq_false, not_false_eq_true, one0, true_or, or_true, eq_self, bI_z, bI_nz, bI_o, b_ft, bI_1, bI_0, ↓kC_l, ↓kC_r, Option.toList_some, Option.toList_none, List.cons_append, List.nil_append, s1_0, s1_1i, s1_1r, s1_1w, s1_1n, s1_s, s2_0, s2_1i, s2_1r, s2_1w, s2_1n, s2_s, gI_sI, gI_sR, gI_sL, gI_sD, gR_sI, gR_sR, gR_sL, gR_sD, gL_sI, gL_sR, gL_sL, gL_sD, gD_sI, gD_sR, gD_sL, gD_sD, isK_sI, isK_sR, isK_sL, isK_sD, inL_sI, inL_sR, inL_sL, inL_sD, nx_sI, nx_sR, nx_sL, nx_sD, kd_sI, kd_sR, kd_sL, kd_sD, ln_sI, ln_sR, ln_sL, ln_sD, ↓reduceIte, c8_n, c8_1, c8_2, c8_3, c8_4, Nat.reduceAdd, hk, hr1, hq, kl, q_listInit _ kl, kq0, hh1, k1, z8, l8, Nat.reduceLeDiff, and_self, hr2, n1, kq1, hh2, k2, hr3, n2, kq2, hc', hh3]
    rfl
  rw [pre, e1 Q, e_MNode_init_60]
  simp only [↓e_MNode_init_0, ↓e_MNode_init_1, ↓e_MNode_init_4, ↓e_MNode_init_5, ↓e_MNode_init_8, ↓e_MNode_init_9, ↓e_MNode_init_12, ↓e_MNode_init_15, ↓e_MNode_init_16, ↓e_MNode_init_17, ↓e_MNode_init_20, ↓e_MNode_init_21, ↓e_MNode_init_23, ↓e_MNode_init_25, ↓e_MNode_init_28, ↓e_MNode_init_29, ↓e_MNode_init_31, ↓e_MNode_init_33, ↓e_MNode_init_36, ↓e_MNode_init_37, ↓e_MNode_init_38, ↓e_MNode_init_41, ↓e_MNode_init_42, ↓e_MNode_init_43, ↓e_MNode_init_46, ↓e_MNode_init_47, ↓e_MNode_init_48, ↓e_MNode_init_51, ↓e_MNode_init_52, ↓e_MNode_init_54, ↓e_MNode_init_57, ↓e_MNode_init_58, ↓e_MNode_init_62, ↓e_MNode_init_64, ↓e_MNode_init_67, ↓e_MNode_init_68, ↓e_MNode_init_71, ↓e_MNode_init_73, ↓e_MNode_init_74, ↓e_MNode_init_75, ↓e_MNode_init_76, ↓e_MNode_init_79, ↓e_MNode_init_81, ↓e_MNode_init_82, ↓e_MNode_init_83, ↓e_MNode_init_86, ↓e_MNode_init_89, not_true_eq_false, not_false_eq_true, one0, true_or, or_true, eq_self, bI_z, bI_nz, bI_o, b_ft, bI_1, bI_0, ↓kC_l, ↓kC_r, Option.toList_some, Option.toList_none, List.cons_append, List.nil_append, s1_0, s1_1i, s1_1r, s1_1w, s1_1n, s1_s, s2_0, s2_1i, s2_1r, s2_1w, s2_1n, s2_s, gI_sI, gI_sR, gI_sL, gI_sD, gR_sI, gR_sR, gR_sL, gR_sD, gL_sI, gL_sR, gL_sL, gL_sD, gD_sI, gD_sR, gD_sL, gD_sD, isK_sI, isK_sR, isK_sL, isK_sD, inL_sI, inL_sR, inL_sL, inL_sD, nx_sI, nx_sR, nx_sL, nx_sD, kd_sI, kd_sR, kd_sL, kd_sD, ln_sI, ln_sR, ln_sL, ln_sD, ↓reduceIte, c8_n, c8_1, c8_2, c8_3, c8_4, Nat.reduceAdd, (show ((8 : Int32) ≤ ii 8) = True from eq_true (by decide))]
end XN0
section XN1
variable {τ τ' : Nat → Nat} {n A c B m T : Nat} {K : Int32} {p b9 x9 p9 : Nat → Nat} {h h' h2 : Hp} {α : As}
theorem nod_n (n : Nat) (α : As) (x y r ch : Int32) (k : Nat) : (nod9 n α x y r ch).1 n k = if k = 0 then x else if k = 1 then y else if k = 2 then r else if k = 3 then ch else if k = 8 then -1 else 0 := if_pos rfl
theorem nod_o (n : Nat) (α : As) (x y r ch : Int32) {a : Nat} (k : Nat) (h1 : a ≠ n) (h2 : a ≠ 60 + n) (h3 : a ≠ 70 + n) : (nod9 n α x y r ch).1 a k = α.1 a k := by
  unfold nod9
  dsimp only
  rw [if_neg h1, if_neg (by omega)]
theorem nod_r (n : Nat) (α : As) (x y r ch : Int32) {a : Nat} (k : Nat) (h2 : a = 60 + n ∨ a = 70 + n) : (nod9 n α x y r ch).1 a k = -1 := by
  unfold nod9
  dsimp only
  rw [if_neg (by omega), if_pos h2]
theorem RA.nodeAdd (R : RM τ n p A c B K h) (V : RA τ n p c B h α) (h8 : n < 8) {q : Nat} {g : Hp} (hq : nx h = q) (J : Jk τ h g) (N : Nc g q) {x y r ch : Int32} (Nv : ∀ j, j ≤ 15 → gI g q j = nv9 x y r ch j) (Nc9 : ∀ j, j < 8 → gI g (q + 2) j = -1) (ng : nx g = q + 4) (sg : sc g ≤ sc h + 100) (hn : nx h + 100 ≤ 580300) (hs : sc h + 1000 ≤ 5700000) :
    ∃ τ' u, (∀ Q, WP Gm j_ArrayList_add_LjavalangObjectZ 0 [some (.inr (.inl (some 122))), some (.inr (.inl (some q)))] [] g Q = Q (.inl (some (.inl 1))) u) ∧ RM τ' (n + 1) (ppn p n q) A c B K u ∧ RA τ' (n + 1) (ppn p n q) c B u (nod9 n α x y r ch) ∧ Ext τ h τ' u ∧ Ag τ (fun s => s = 1 ∨ s = 3 ∨ s = 6) h u ∧ nx u ≤ nx h + 5 ∧ sc u ≤ sc h + 110 := by
  obtain ⟨τ', u, u1, R2, X, G, n2, s2⟩ := R.nodeAdd h8 hq J N ng sg hn hs
  refine ⟨τ', u, u1, R2, ?_, X, G, n2, s2⟩
  have F := R.F
  have f125 := F.1
  -- the new node's cells
  obtain ⟨k0, -, -, ⟨kr, lr⟩, Lq, vr, -, -⟩ := N
  have t122 := R.t2
  have gu : ∀ x j, x < 4 → gI u (q + x) j = gI g (q + x) j ∧ gR u (q + x) j = gR g (q + x) j := fun x j hx => by
    obtain ⟨c0, hc0, L⟩ := R.nl
    have F1 : Fs (tpn τ n q) g := by
      refine ⟨by omega, fun x hx => ?_, fun x hx => ?_, ?_, ?_, ?_, ?_⟩
      · rw [tpn_ne (by omega)]; exact F.j (by omega)
      · rw [tpn_ne (by omega)]; exact F.2.2.1 x hx
      · rw [tpn_ne (by omega)]; exact R.t1
      · rw [tpn_ne (by omega)]; exact R.t2
      · rw [tpn_ne (by omega)]; exact R.t3
      · rw [tpn_ne (by omega)]; exact R.t4
    have X1 : Ext τ h (tpn τ n q) g := ⟨fun z hz => ⟨tpn_ne (by omega), (J.1.1 z hz).2.1, (J.1.1 z hz).2.2⟩, by omega⟩
    have L1 : Lst (tpn τ n q) g 122 6 (fun j f => f = ppn p n q j) n c0 := (L.fr X1 J.2 (by rw [R.t2]; omega) (by omega) (fun _ _ _ w => w)).mono fun j f hj w => by rw [ppn_ne (by omega)]; exact w
    have any : isAny g (some q) = true := by
      obtain ⟨b1, b2⟩ := isK_spec k0
      unfold isAny
      simp only [Bool.and_eq_true, decide_eq_true_eq]
      exact ⟨⟨b1, by omega⟩, Or.inl (by rw [b2]; decide)⟩
    obtain ⟨τ2, u', v1, -, -, -, G2, -⟩ := q_zadd F1 L1 (by omega) (by omega) (by omega) any (show q = ppn p n q n from ppn_eq.symm) (by omega)
    obtain ⟨-, rfl⟩ := det u1 v1
    have e : ¬ (tpn τ n q (q + x) = 1 ∨ tpn τ n q (q + x) = tpn τ n q 122 ∨ tpn τ n q (q + x) = 6) := by
      rw [tpn_ne (x := 122) (by omega), R.t2]
      have : x = 0 ∨ x = 1 ∨ x = 2 ∨ x = 3 := by omega
      rcases this with rfl | rfl | rfl | rfl
      · rw [Nat.add_zero, tpn_0]; omega
      · rw [tpn_1]; omega
      · rw [tpn_2]; omega
      · rw [tpn_3]; omega
    exact ⟨(G2 (q + x) e j).1, (G2 (q + x) e j).2.1⟩
  have pe : ppn p n q n = q := ppn_eq
  have g0 : ∀ j, gI u q j = gI g q j := fun j => (gu 0 j (by omega)).1
  obtain ⟨v1, v2, v3, v4, v5, v6⟩ := V
  refine ⟨fun i hi f h1 h2 => ?_, fun i hi => ?_, fun i hi j hj => ?_, fun k h1 h2 => ?_, ?_, fun i hi w => ?_⟩
  · by_cases e : i = n
    · subst e
      rw [pe, g0, nod_n, Nv (rf9 f) (by unfold rf9; split <;> omega)]
      unfold nv9 rf9
      by_cases h10 : f < 10
      · rw [if_pos h10]
      · rw [if_neg h10, if_neg (by omega), if_neg (by omega), if_neg (by omega), if_neg (by omega), if_neg (by omega), if_neg (by omega), if_neg (by omega), if_neg (by omega), if_neg (by omega), if_neg (by omega)]
    · rw [ppn_ne e, nod_o _ _ _ _ _ _ _ e (by omega) (by omega)]
      exact v1.fr R G (fun a ha => by omega) i (by omega) f h1 h2
  · by_cases e : i = n
    · subst e
      have q0 : (nod9 i α x y r ch).2.1 i = 0 := if_pos rfl
      unfold Rq
      rw [q0, pe]
      exact ⟨0, Or.inl rfl, eD, ⟨by
        obtain ⟨N1, -⟩ := R2.nd hi
        obtain ⟨k9, c9, -, -, L9⟩ := (R2.nd hi).2.2.1
        rw [pe] at L9
        exact L9.kd, by rw [(gu 1 1 (by omega)).2]; exact Lq.r, by rw [(gu 1 2 (by omega)).1]; exact Lq.s, by omega, Or.inl ⟨rfl, rfl⟩⟩, Or.inl ⟨rfl, rfl⟩, fun j hj => absurd hj (by omega)⟩
    · have hi2 : i < n := by omega
      have a := (v2 i hi2).fr R hi2 X G (by omega) (by omega) (by omega)
      have q1 : (nod9 n α x y r ch).2.1 i = α.2.1 i := if_neg e
      unfold Rq at a ⊢
      rw [q1, ppn_ne e]
      exact a
  · by_cases e : i = n
    · subst e
      rw [pe, (gu 3 j (by omega)).1, (gu 2 j (by omega)).1, nod_r _ _ _ _ _ _ _ (Or.inr rfl), nod_r _ _ _ _ _ _ _ (Or.inl rfl)]
      exact ⟨vr j hj, Nc9 j hj⟩
    · rw [ppn_ne e, nod_o _ _ _ _ _ _ _ (by omega) (by omega) (by omega), nod_o _ _ _ _ _ _ _ (by omega) (by omega) (by omega)]
      exact v3.fr R G (fun a ha => by omega) i (by omega) j hj
  · rw [nod_o _ _ _ _ _ _ _ (by omega) (by omega) (by omega)]
    exact v4.fr R G (by omega) k h1 h2
  · obtain ⟨m, av, L, r1, r2, r3⟩ := v5.fr R X G (by omega) (by omega) (by omega)
    refine ⟨m, av, L, fun j hj => ⟨by have := (r1 j hj).1; omega, (r1 j hj).2⟩, fun i k hi hk => ?_, by rw [nod_o _ _ _ _ _ _ _ (by omega) (by omega) (by omega)]; exact r3⟩
    by_cases e : i = n
    · have q0 : (nod9 n α x y r ch).2.2.2 i k = false := if_pos e
      rw [q0]
      constructor
      · intro w; cases w
      · rintro ⟨j, j1, j2⟩
        have := (r1 j j1).1
        rw [j2] at this
        dsimp only at this
        omega
    · have q1 : (nod9 n α x y r ch).2.2.2 i k = α.2.2.2 i k := if_neg e
      rw [q1]
      exact r2 i k (by omega) hk
  · by_cases e : i = n
    · subst e
      rw [nod_n] at w
      exact absurd (show (0 : Int32) < 0 from w) (by decide)
    · rw [nod_o _ _ _ _ _ _ _ e (by omega) (by omega)] at w
      rw [ppn_ne e]
      exact v6.fr R G (fun a ha => by omega) i (by omega) w
theorem qx_mnode (R : RM τ n p (8 * B) c B K h) (V0 : RA τ n p c B (sI h 121 0 0) α) (VB : BB τ b9 x9 p9 m h) (hn1 : nx h + 1000 ≤ 580300) (hs1 : sc h + 7000 ≤ 5700000) (x y r : Int32) {ch : Int32} (hc : ch = 0 ∨ ch = 1) :
    ∃ v h', (∀ Q, WP Gm j_Mdl_node 0 [some (.inr (.inl (some 121))), some (.inl x), some (.inl y), some (.inl r), some (.inl ch)] [] h Q = Q (.inl (some (.inl v))) h') ∧ RES τ (if nodeOK x y r = true ∧ n < 8 then n + 1 else n) c B K b9 x9 p9 m h h' v (nde9 n α x y r ch) := by
  have hn := R.n8
  have F := R.F
  unfold nde9
  cases hb : nodeOK x y r with
  | false =>
    rw [if_neg (by simp), if_pos rfl]
    refine ⟨0, sI (sI h 121 0 0) 121 0 1, fun Q => ?_, RES.no R V0 VB (by decide) 0 0⟩
    unfold nodeOK at hb
    cases e1 : (decide (0 ≤ x) && decide (x ≤ 29)) with
    | false => simp only [↓e_Mdl_node_0, ↓e_Mdl_node_1, ↓e_Mdl_node_2, ↓e_Mdl_node_3, ↓e_Mdl_node_5, ↓e_Mdl_node_8, ↓e_Mdl_node_11, ↓e_Mdl_node_12, ↓e_Mdl_node_13, ↓e_Mdl_node_15, ↓e_Mdl_node_18, ↓e_Mdl_node_21, ↓e_Mdl_node_22, ↓e_Mdl_node_23, ↓e_Mdl_node_25, ↓e_Mdl_node_28, ↓e_Mdl_node_31, ↓e_Mdl_node_32, ↓e_Mdl_node_35, ↓e_Mdl_node_36, ↓e_Mdl_node_37, ↓e_Mdl_node_40, ↓e_Mdl_node_43, ↓e_Mdl_node_44, ↓e_Mdl_node_45, ↓e_Mdl_node_48, ↓e_Mdl_node_51, ↓e_Mdl_node_53, ↓e_Mdl_node_56, ↓e_Mdl_node_57, ↓e_Mdl_node_60, ↓e_Mdl_node_61, ↓e_Mdl_node_62, ↓e_Mdl_node_65, ↓e_Mdl_node_68, ↓e_Mdl_node_69, ↓e_Mdl_node_70, ↓e_Mdl_node_71, ↓e_Mdl_node_74, ↓e_Mdl_node_77, ↓e_Mdl_node_78, ↓e_Mdl_node_79, ↓e_Mdl_node_80, ↓e_Mdl_node_81, ↓e_Mdl_node_83, ↓e_Mdl_node_86, ↓e_Mdl_node_89, ↓e_Mdl_node_90, ↓e_Mdl_node_91, ↓e_Mdl_node_94, ↓e_Mdl_node_97, ↓e_Mdl_node_98, ↓e_Mdl_node_99, not_true_eq_false, not_false_eq_true, one0, true_or, or_true, eq_self, bI_z, bI_nz, bI_o, b_ft, bI_1, bI_0, ↓kC_l, ↓kC_r, Option.toList_some, Option.toList_none, List.cons_append, List.nil_append, s1_0, s1_1i, s1_1r, s1_1w, s1_1n, s1_s, s2_0, s2_1i, s2_1r, s2_1w, s2_1n, s2_s, gI_sI, gI_sR, gI_sL, gI_sD, gR_sI, gR_sR, gR_sL, gR_sD, gL_sI, gL_sR, gL_sL, gL_sD, gD_sI, gD_sR, gD_sL, gD_sD, isK_sI, isK_sR, isK_sL, isK_sD, inL_sI, inL_sR, inL_sL, inL_sD, nx_sI, nx_sR, nx_sL, nx_sD, kd_sI, kd_sR, kd_sL, kd_sD, ln_sI, ln_sR, ln_sL, ln_sD, ↓reduceIte, c8_n, c8_1, c8_2, c8_3, c8_4, Nat.reduceAdd, q_misIn, e1, R.k, q_stT _ R]
    | true =>
      cases e2 : (decide (0 ≤ y) && decide (y ≤ 29)) with
      | false => simp only [↓e_Mdl_node_0, ↓e_Mdl_node_1, ↓e_Mdl_node_2, ↓e_Mdl_node_3, ↓e_Mdl_node_5, ↓e_Mdl_node_8, ↓e_Mdl_node_11, ↓e_Mdl_node_12, ↓e_Mdl_node_13, ↓e_Mdl_node_15, ↓e_Mdl_node_18, ↓e_Mdl_node_21, ↓e_Mdl_node_22, ↓e_Mdl_node_23, ↓e_Mdl_node_25, ↓e_Mdl_node_28, ↓e_Mdl_node_31, ↓e_Mdl_node_32, ↓e_Mdl_node_35, ↓e_Mdl_node_36, ↓e_Mdl_node_37, ↓e_Mdl_node_40, ↓e_Mdl_node_43, ↓e_Mdl_node_44, ↓e_Mdl_node_45, ↓e_Mdl_node_48, ↓e_Mdl_node_51, ↓e_Mdl_node_53, ↓e_Mdl_node_56, ↓e_Mdl_node_57, ↓e_Mdl_node_60, ↓e_Mdl_node_61, ↓e_Mdl_node_62, ↓e_Mdl_node_65, ↓e_Mdl_node_68, ↓e_Mdl_node_69, ↓e_Mdl_node_70, ↓e_Mdl_node_71, ↓e_Mdl_node_74, ↓e_Mdl_node_77, ↓e_Mdl_node_78, ↓e_Mdl_node_79, ↓e_Mdl_node_80, ↓e_Mdl_node_81, ↓e_Mdl_node_83, ↓e_Mdl_node_86, ↓e_Mdl_node_89, ↓e_Mdl_node_90, ↓e_Mdl_node_91, ↓e_Mdl_node_94, ↓e_Mdl_node_97, ↓e_Mdl_node_98, ↓e_Mdl_node_99, not_true_eq_false, not_false_eq_true, one0, true_or, or_true, eq_self, bI_z, bI_nz, bI_o, b_ft, bI_1, bI_0, ↓kC_l, ↓kC_r, Option.toList_some, Option.toList_none, List.cons_append, List.nil_append, s1_0, s1_1i, s1_1r, s1_1w, s1_1n, s1_s, s2_0, s2_1i, s2_1r, s2_1w, s2_1n, s2_s, gI_sI, gI_sR, gI_sL, gI_sD, gR_sI, gR_sR, gR_sL, gR_sD, gL_sI, gL_sR, gL_sL, gL_sD, gD_sI, gD_sR, gD_sL, gD_sD, isK_sI, isK_sR, isK_sL, isK_sD, inL_sI, inL_sR, inL_sL, inL_sD, nx_sI, nx_sR, nx_sL, nx_sD, kd_sI, kd_sR, kd_sL, kd_sD, ln_sI, ln_sR, ln_sL, ln_sD, ↓reduceIte, c8_n, c8_1, c8_2, c8_3, c8_4, Nat.reduceAdd, q_misIn, e1, e2, R.k, q_stT _ R]
      | true =>
        cases e3 : (decide (1 ≤ r) && decide (r ≤ 42)) with
        | false => simp only [↓e_Mdl_node_0, ↓e_Mdl_node_1, ↓e_Mdl_node_2, ↓e_Mdl_node_3, ↓e_Mdl_node_5, ↓e_Mdl_node_8, ↓e_Mdl_node_11, ↓e_Mdl_node_12, ↓e_Mdl_node_13, ↓e_Mdl_node_15, ↓e_Mdl_node_18, ↓e_Mdl_node_21, ↓e_Mdl_node_22, ↓e_Mdl_node_23, ↓e_Mdl_node_25, ↓e_Mdl_node_28, ↓e_Mdl_node_31, ↓e_Mdl_node_32, ↓e_Mdl_node_35, ↓e_Mdl_node_36, ↓e_Mdl_node_37, ↓e_Mdl_node_40, ↓e_Mdl_node_43, ↓e_Mdl_node_44, ↓e_Mdl_node_45, ↓e_Mdl_node_48, ↓e_Mdl_node_51, ↓e_Mdl_node_53, ↓e_Mdl_node_56, ↓e_Mdl_node_57, ↓e_Mdl_node_60, ↓e_Mdl_node_61, ↓e_Mdl_node_62, ↓e_Mdl_node_65, ↓e_Mdl_node_68, ↓e_Mdl_node_69, ↓e_Mdl_node_70, ↓e_Mdl_node_71, ↓e_Mdl_node_74, ↓e_Mdl_node_77, ↓e_Mdl_node_78, ↓e_Mdl_node_79, ↓e_Mdl_node_80, ↓e_Mdl_node_81, ↓e_Mdl_node_83, ↓e_Mdl_node_86, ↓e_Mdl_node_89, ↓e_Mdl_node_90, ↓e_Mdl_node_91, ↓e_Mdl_node_94, ↓e_Mdl_node_97, ↓e_Mdl_node_98, ↓e_Mdl_node_99, not_true_eq_false, not_false_eq_true, one0, true_or, or_true, eq_self, bI_z, bI_nz, bI_o, b_ft, bI_1, bI_0, ↓kC_l, ↓kC_r, Option.toList_some, Option.toList_none, List.cons_append, List.nil_append, s1_0, s1_1i, s1_1r, s1_1w, s1_1n, s1_s, s2_0, s2_1i, s2_1r, s2_1w, s2_1n, s2_s, gI_sI, gI_sR, gI_sL, gI_sD, gR_sI, gR_sR, gR_sL, gR_sD, gL_sI, gL_sR, gL_sL, gL_sD, gD_sI, gD_sR, gD_sL, gD_sD, isK_sI, isK_sR, isK_sL, isK_sD, inL_sI, inL_sR, inL_sL, inL_sD, nx_sI, nx_sR, nx_sL, nx_sD, kd_sI, kd_sR, kd_sL, kd_sD, ln_sI, ln_sR, ln_sL, ln_sD, ↓reduceIte, c8_n, c8_1, c8_2, c8_3, c8_4, Nat.reduceAdd, q_misIn, e1, e2, e3, R.k, q_stT _ R]
        | true =>
          rw [e1, e2, e3] at hb
          cases hb
  | true =>
    have hb2 := hb
    unfold nodeOK at hb2
    rw [Bool.and_eq_true] at hb2
    obtain ⟨e1, hb3⟩ := hb2
    rw [Bool.and_eq_true] at hb3
    obtain ⟨e2, e3⟩ := hb3
    have R0 : RM τ n p (8 * B) c B K (sI h 121 0 0) := R.th
    have e8 : (ii n = (8 : Int32)) = (n = 8) := ii_inj (j := 8) (by omega) (by omega)
    rw [if_neg (show ¬ true = false by decide)]
    by_cases h8 : n = 8
    · have e8' : (ii n = (8 : Int32)) = True := by rw [e8]; exact eq_true h8
      have n8 : ¬ n < 8 := by omega
      rw [if_neg (by omega), if_neg n8]
      refine ⟨0, sI (sI h 121 0 0) 121 0 2, fun Q => ?_, RES.no R V0 VB (by decide) 0 0⟩
      simp only [↓e_Mdl_node_0, ↓e_Mdl_node_1, ↓e_Mdl_node_2, ↓e_Mdl_node_3, ↓e_Mdl_node_5, ↓e_Mdl_node_8, ↓e_Mdl_node_11, ↓e_Mdl_node_12, ↓e_Mdl_node_13, ↓e_Mdl_node_15, ↓e_Mdl_node_18, ↓e_Mdl_node_21, ↓e_Mdl_node_22, ↓e_Mdl_node_23, ↓e_Mdl_node_25, ↓e_Mdl_node_28, ↓e_Mdl_node_31, ↓e_Mdl_node_32, ↓e_Mdl_node_35, ↓e_Mdl_node_36, ↓e_Mdl_node_37, ↓e_Mdl_node_40, ↓e_Mdl_node_43, ↓e_Mdl_node_44, ↓e_Mdl_node_45, ↓e_Mdl_node_48, ↓e_Mdl_node_51, ↓e_Mdl_node_53, ↓e_Mdl_node_56, ↓e_Mdl_node_57, ↓e_Mdl_node_60, ↓e_Mdl_node_61, ↓e_Mdl_node_62, ↓e_Mdl_node_65, ↓e_Mdl_node_68, ↓e_Mdl_node_69, ↓e_Mdl_node_70, ↓e_Mdl_node_71, ↓e_Mdl_node_74, ↓e_Mdl_node_77, ↓e_Mdl_node_78, ↓e_Mdl_node_79, ↓e_Mdl_node_80, ↓e_Mdl_node_81, ↓e_Mdl_node_83, ↓e_Mdl_node_86, ↓e_Mdl_node_89, ↓e_Mdl_node_90, ↓e_Mdl_node_91, ↓e_Mdl_node_94, ↓e_Mdl_node_97, ↓e_Mdl_node_98, ↓e_Mdl_node_99, not_true_eq_false, not_false_eq_true, one0, true_or, or_true, eq_self, bI_z, bI_nz, bI_o, b_ft, bI_1, bI_0, ↓kC_l, ↓kC_r, Option.toList_some, Option.toList_none, List.cons_append, List.nil_append, s1_0, s1_1i, s1_1r, s1_1w, s1_1n, s1_s, s2_0, s2_1i, s2_1r, s2_1w, s2_1n, s2_s, gI_sI, gI_sR, gI_sL, gI_sD, gR_sI, gR_sR, gR_sL, gR_sD, gL_sI, gL_sR, gL_sL, gL_sD, gD_sI, gD_sR, gD_sL, gD_sD, isK_sI, isK_sR, isK_sL, isK_sD, inL_sI, inL_sR, inL_sL, inL_sD, nx_sI, nx_sR, nx_sL, nx_sD, kd_sI, kd_sR, kd_sL, kd_sD, ln_sI, ln_sR, ln_sL, ln_sD, ↓reduceIte, c8_n, c8_1, c8_2, c8_3, c8_4, Nat.reduceAdd, q_misIn, e1, e2, e3, R.k, q_stF _ R, R0.k, R0.r9, R0.k122, q_nn _ R0, e8', q_rfT _ R0 (show (0 : Int32) < 2 by decide) (th0 h)]
    · have e8' : (ii n = (8 : Int32)) = False := by rw [e8]; exact eq_false h8
      have n8 : n < 8 := by omega
      rw [if_pos ⟨rfl, n8⟩, if_pos n8]
      have hr : okR cM sM (sI h 121 0 0) 1 18 = true := ok_big (by show nx h + 1 ≤ _; omega) (by show sc h + 18 ≤ _; omega)
      generalize hg0 : hN (sI h 121 0 0) kc_MNode 0 18 = g0
      have J0 : Jk τ (sI h 121 0 0) g0 := by rw [← hg0]; exact (Jk.refl _ _).hN (R0.F.j (Nat.le_refl _))
      have ng0 : nx g0 = nx h + 1 := by rw [← hg0]; rfl
      have sg0 : sc g0 = sc h + 18 := by rw [← hg0]; rfl
      have k0 : isK g0 (nx h) kc_MNode = true := by rw [← hg0]; exact isK_new
      have Fg0 : Fs τ g0 := F.same (by omega)
      obtain ⟨g, g1, J, N, Nv, Nc9, ng, sg⟩ := qx_zNodeInit Fg0 ng0 (F.j (Nat.le_refl _)) (by have := F.1; omega) k0 (fun j => by rw [← hg0, gI_hN, nx_sI, if_pos rfl]) (by omega) (by omega) x y r hc
      have Jg : Jk τ (sI h 121 0 0) g := J0.trans J
      obtain ⟨τ', u, u1, R2, V2, X2, G2, n2, s2⟩ := RA.nodeAdd R0 V0 n8 (q := nx h) rfl Jg N Nv Nc9 ng (by show _ ≤ sc h + 100; omega) (by show nx h + 100 ≤ _; omega) (by show sc h + 1000 ≤ _; omega)
      have G3 : Ag τ S0 h u := (R.sth 0).s0.trans F (R.sth 0).1 S01 (G2.mono fun s w => by unfold S0; omega)
      have n2' : nx u ≤ nx h + 5 := n2
      have s2' : sc u ≤ sc h + 110 := s2
      have e1n : ii (n + 1) - 1 = ii n := ii_pred (k := n + 1) (by omega)
      refine ⟨ii n, u, fun Q => ?_, ?_, fun _ => rfl, MoA.mk0 R2 ((R.sth 0).1.trans X2) F G3 VB V2 (by omega) (by omega)⟩
      · simp only [↓e_Mdl_node_0, ↓e_Mdl_node_1, ↓e_Mdl_node_2, ↓e_Mdl_node_3, ↓e_Mdl_node_5, ↓e_Mdl_node_8, ↓e_Mdl_node_11, ↓e_Mdl_node_12, ↓e_Mdl_node_13, ↓e_Mdl_node_15, ↓e_Mdl_node_18, ↓e_Mdl_node_21, ↓e_Mdl_node_22, ↓e_Mdl_node_23, ↓e_Mdl_node_25, ↓e_Mdl_node_28, ↓e_Mdl_node_31, ↓e_Mdl_node_32, ↓e_Mdl_node_35, ↓e_Mdl_node_36, ↓e_Mdl_node_37, ↓e_Mdl_node_40, ↓e_Mdl_node_43, ↓e_Mdl_node_44, ↓e_Mdl_node_45, ↓e_Mdl_node_48, ↓e_Mdl_node_51, ↓e_Mdl_node_53, ↓e_Mdl_node_56, ↓e_Mdl_node_57, ↓e_Mdl_node_60, ↓e_Mdl_node_61, ↓e_Mdl_node_62, ↓e_Mdl_node_65, ↓e_Mdl_node_68, ↓e_Mdl_node_69, ↓e_Mdl_node_70, ↓e_Mdl_node_71, ↓e_Mdl_node_74, ↓e_Mdl_node_77, ↓e_Mdl_node_78, ↓e_Mdl_node_79, ↓e_Mdl_node_80, ↓e_Mdl_node_81, ↓e_Mdl_node_83, ↓e_Mdl_node_86, ↓e_Mdl_node_89, ↓e_Mdl_node_90, ↓e_Mdl_node_91, ↓e_Mdl_node_94, ↓e_Mdl_node_97, ↓e_Mdl_node_98, ↓e_Mdl_node_99, not_true_eq_false, not_false_eq_true, one0, true_or, or_true, eq_self, bI_z, bI_nz, bI_o, b_ft, bI_1, bI_0, ↓kC_l, ↓kC_r, Option.toList_some, Option.toList_none, List.cons_append, List.nil_append, s1_0, s1_1i, s1_1r, s1_1w, s1_1n, s1_s, s2_0, s2_1i, s2_1r, s2_1w, s2_1n, s2_s, gI_sI, gI_sR, gI_sL, gI_sD, gR_sI, gR_sR, gR_sL, gR_sD, gL_sI, gL_sR, gL_sL, gL_sD, gD_sI, gD_sR, gD_sL, gD_sD, isK_sI, isK_sR, isK_sL, isK_sD, inL_sI, inL_sR, inL_sL, inL_sD, nx_sI, nx_sR, nx_sL, nx_sD, kd_sI, kd_sR, kd_sL, kd_sD, ln_sI, ln_sR, ln_sL, ln_sD, ↓reduceIte, c8_n, c8_1, c8_2, c8_3, c8_4, Nat.reduceAdd, q_misIn, e1, e2, e3, R.k, q_stF _ R, R0.k, R0.r9, R0.k122, q_nn _ R0, e8', q_rfF _ R0 _ (th0 h), hr, hg0, k0, g1, Jg.1.k R0.k122, u1, R2.k, R2.r9, R2.k122, q_nn _ R2, e1n]
      · rw [(G2 121 (by rw [R.t1]; omega) 0).1]
        exact th0 h
/-- the country's new node -/
theorem CA.new (V : CA n h α) (A : AI n h) (W : FN n h) (hn : n < 8) {x y r ch : Int32} (F : Fr (fun a k => a = 4 ∨ (a = 2 ∧ k = 2) ∨ (a = 5 + 9 * n ∧ k ≤ 3)) nW nW h h') (e3 : gI h' (5 + 9 * n) 0 = x ∧ gI h' (5 + 9 * n) 1 = y ∧ gI h' (5 + 9 * n) 2 = r ∧ gI h' (5 + 9 * n) 3 = ch) (e4 : Ch (n + 1) h' (nod9 n α x y r ch)) : CA (n + 1) h' (nod9 n α x y r ch) := by
  obtain ⟨v1, v2, v3, v4, ⟨v5, v6, v7⟩, v8, v9, v10, v11⟩ := V
  have eI : ∀ a k, ¬ (a = 4 ∨ (a = 2 ∧ k = 2) ∨ (a = 5 + 9 * n ∧ k ≤ 3)) → gI h' a k = gI h a k := fun a k q => F.1 a k q
  have eR : ∀ a k, gR h' a k = gR h a k := fun a k => F.2.1 a k (fun w => w)
  have no : ∀ a k, a ≠ n → a ≠ 60 + n → a ≠ 70 + n → (nod9 n α x y r ch).1 a k = α.1 a k := fun a k h1 h2 h3 => nod_o _ _ _ _ _ _ _ h1 h2 h3
  obtain ⟨w0, w1, w2⟩ := W n (Nat.le_refl n) hn
  obtain ⟨z5, z8, z9⟩ := v10 n (Nat.le_refl n) hn
  refine ⟨fun j hj f h1 h2 => ?_, fun j hj => ?_, v3.fr fun j k _ _ => eR _ _, e4, ⟨fun k h1 h2 => ?_, ?_, ?_⟩, fun j k hj hk => ?_, ?_, fun j h1 h2 => ?_, fun j hj => ?_⟩
  · by_cases e : j = n
    · subst e
      rw [nod_n]
      by_cases f3 : f ≤ 3
      · have : f = 0 ∨ f = 1 ∨ f = 2 ∨ f = 3 := by omega
        rcases this with rfl | rfl | rfl | rfl
        · exact e3.1
        · exact e3.2.1
        · exact e3.2.2.1
        · exact e3.2.2.2
      · rw [eI _ _ (by omega), if_neg (by omega), if_neg (by omega), if_neg (by omega), if_neg (by omega)]
        by_cases f8 : f = 8
        · rw [f8, if_pos rfl]; exact z8
        · rw [if_neg f8]
          by_cases f5 : f = 5
          · rw [f5]; exact z5
          · by_cases f9 : f = 9
            · rw [f9]; exact z9
            · exact w1 f (by omega) (by omega) f8 f9
    · rw [eI _ _ (by omega), no _ _ e (by omega) (by omega)]
      exact v1 j (by omega) f h1 h2
  · by_cases e : j = n
    · subst e
      have q0 : (nod9 j α x y r ch).2.1 j = 0 := if_pos rfl
      unfold Cq
      rw [q0, eI _ _ (by omega)]
      exact ⟨w0, by omega, fun k hk => absurd hk (by omega)⟩
    · have := (v2 j (by omega)).fr (h' := h') (eI _ _ (by omega)) (fun a k _ _ => eI _ _ (by omega)) (fun k _ => eR _ _)
      have q1 : (nod9 n α x y r ch).2.1 j = α.2.1 j := if_neg e
      unfold Cq at this ⊢
      rw [q1]
      exact this
  · rw [eI _ _ (by omega), no _ _ (by omega) (by omega) (by omega)]; exact v5 k h1 h2
  · rw [eI _ _ (by omega), no _ _ (by omega) (by omega) (by omega)]; exact v6
  · rw [eI _ _ (by omega), no _ _ (by omega) (by omega) (by omega)]; exact v7
  · have em : mb h' j k = mb h j k := by
      unfold mb
      rw [F.2.2.1 _ _ (fun w => w)]
    rw [em]
    by_cases e : j = n
    · subst e
      have q0 : (nod9 j α x y r ch).2.2.2 j k = false := if_pos rfl
      rw [q0]
      unfold mb
      rw [w2 (k / 64) (by omega)]
      simp
    · have q1 : (nod9 n α x y r ch).2.2.2 j k = α.2.2.2 j k := if_neg e
      rw [q1]
      exact v8 j k (by omega) hk
  · obtain ⟨c, R, a1, a2, a3⟩ := v9
    have hcc := R.1
    refine ⟨c, R.fr fun k => eR _ _, fun i hi j hj => ?_, fun i j hi hj q => ?_, fun i j hi hj q => ?_⟩
    · rw [eI _ _ (by omega), eI _ _ (by omega)]
      by_cases e : i = n
      · subst e
        rw [nod_r _ _ _ _ _ _ _ (Or.inl rfl), nod_r _ _ _ _ _ _ _ (Or.inr rfl)]
        exact a2 i j hn hj (Or.inl (Nat.le_refl i))
      · rw [no _ _ (by omega) (by omega) (by omega), no _ _ (by omega) (by omega) (by omega)]
        exact a1 i (by omega) j hj
    · rw [eI _ _ (by omega), eI _ _ (by omega)]
      exact a2 i j hi hj (by omega)
    · rw [eI _ _ (by omega), eI _ _ (by omega)]
      exact a3 i j hi hj (by omega)
  · rw [eI _ _ (by omega), eI _ _ (by omega), eI _ _ (by omega)]
    exact v10 j (by omega) h2
  · by_cases e : j = n
    · subst e
      refine ⟨Or.inl (by rw [nod_n]; rfl), fun k hk _ => nod_r _ _ _ _ _ _ _ (Or.inl rfl)⟩
    · obtain ⟨b1, b2⟩ := v11 j (by omega)
      exact ⟨by rw [no _ _ e (by omega) (by omega)]; exact b1, fun k hk => by rw [no _ _ (by omega) (by omega) (by omega), no _ _ (by omega) (by omega) (by omega)]; exact b2 k hk⟩
theorem ca_add (A : AI n h) (V : CA n h α) (hn : n < 8) (W : FN n h) (x y r : Int32) {ch : Int32} (hc : ch = 0 ∨ ch = 1) : ∃ h', (∀ Q, WP Gm j_Land_add 0 [some (.inr (.inl (some 2))), some (.inl x), some (.inl y), some (.inl r), some (.inl ch), none] [] h Q = Q (.inl (some (.inl (ii n)))) h') ∧ CA (n + 1) h' (nod9 n α x y r ch) := by
  have S := A.1
  obtain ⟨A1, W1⟩ := A.grow hn W
  generalize hh1 : sI h 2 2 (ii (n + 1)) = h1 at A1 W1
  have S1 := A1.1
  have F1 : Fr (fun a k => a = 4 ∨ (a = 2 ∧ k = 2) ∨ (a = 5 + 9 * n ∧ k ≤ 3)) nW nW h h1 := by rw [← hh1]; exact (Fr.refl h).sI _ (Or.inr (Or.inl ⟨rfl, rfl⟩))
  generalize hg : sI (sI h1 (5 + 9 * n) 0 x) (5 + 9 * n) 1 y = g
  have Sg : Str (n + 1) g := by rw [← hg]; exact (S1.sI _ (by omega)).sI _ (by omega)
  have Fg : Fr (fun a k => a = 4 ∨ (a = 2 ∧ k = 2) ∨ (a = 5 + 9 * n ∧ k ≤ 3)) nW nW h g := by
    rw [← hg]
    exact (F1.sI _ (by omega)).sI _ (by omega)
  generalize hg2 : sI (sI g (5 + 9 * n) 2 r) (5 + 9 * n) 3 ch = g2
  have Sg2 : Str (n + 1) g2 := by rw [← hg2]; exact (Sg.sI _ (by omega)).sI _ (by omega)
  have Fg2 : Fr (fun a k => a = 4 ∨ (a = 2 ∧ k = 2) ∨ (a = 5 + 9 * n ∧ k ≤ 3)) nW nW h g2 := by
    rw [← hg2]
    exact (Fg.sI _ (by omega)).sI _ (by omega)
  obtain ⟨g3, r1, r2, r3⟩ := ca_findH Sg2
  have F' : Fr (fun a k => a = 4 ∨ (a = 2 ∧ k = 2) ∨ (a = 5 + 9 * n ∧ k ≤ 3)) nW nW h g3 := Fg2.trans (r2.mono (fun a k w => Or.inl w) (fun _ _ w => w) (fun _ _ w => w))
  have e3 : gI g2 (5 + 9 * n) 0 = x ∧ gI g2 (5 + 9 * n) 1 = y ∧ gI g2 (5 + 9 * n) 2 = r ∧ gI g2 (5 + 9 * n) 3 = ch := by
    rw [← hg2, ← hg]
    simp only [gI_sI, Nat.reduceEqDiff, and_false, and_self, ↓reduceIte]
  have ev : ∀ i f, i < n + 1 → f ≤ 2 → gI g2 (5 + 9 * i) f = (nod9 n α x y r ch).1 i f := fun i f hi hf => by
    by_cases e : i = n
    · subst e
      rw [nod_n]
      have : f = 0 ∨ f = 1 ∨ f = 2 := by omega
      rcases this with rfl | rfl | rfl
      · exact e3.1
      · exact e3.2.1
      · exact e3.2.2.1
    · rw [nod_o _ _ _ _ _ _ _ e (by omega) (by omega), Fg2.1 _ _ (by omega)]
      exact V.1 i (by omega) f (by omega) (by omega)
  have hn8 : n < 8 := hn
  refine ⟨g3, fun Q => ?_, V.new A W hn F' (by rw [r2.1 _ _ (by omega), r2.1 _ _ (by omega), r2.1 _ _ (by omega), r2.1 _ _ (by omega)]; exact e3) (fun j hj => (r3 j hj).trans (hs_of ev hj))⟩
  simp only [↓e_Land_add_0, ↓e_Land_add_1, ↓e_Land_add_4, ↓e_Land_add_6, ↓e_Land_add_7, ↓e_Land_add_8, ↓e_Land_add_11, ↓e_Land_add_12, ↓e_Land_add_13, ↓e_Land_add_16, ↓e_Land_add_17, ↓e_Land_add_20, ↓e_Land_add_22, ↓e_Land_add_23, ↓e_Land_add_24, ↓e_Land_add_27, ↓e_Land_add_28, ↓e_Land_add_31, ↓e_Land_add_33, ↓e_Land_add_34, ↓e_Land_add_35, ↓e_Land_add_38, ↓e_Land_add_39, ↓e_Land_add_41, ↓e_Land_add_42, ↓e_Land_add_44, ↓e_Land_add_47, ↓e_Land_add_49, ↓e_Land_adjust_0, ↓e_Land_adjust_1, ↓e_Land_adjust_4, ↓e_Land_adjust_5, ↓e_Land_adjust_6, ↓e_Land_adjust_7, ↓e_Land_adjust_10, ↓e_Land_adjust_11, ↓e_Land_adjust_14, ↓e_Land_adjust_15, ↓e_Land_adjust_16, ↓e_Land_adjust_17, ↓e_Land_adjust_20, ↓e_Land_adjust_21, ↓e_Land_adjust_24, not_true_eq_false, not_false_eq_true, one0, true_or, or_true, eq_self, bI_z, bI_nz, bI_o, b_ft, bI_1, bI_0, ↓kC_l, ↓kC_r, Option.toList_some, Option.toList_none, List.cons_append, List.nil_append, s1_0, s1_1i, s1_1r, s1_1w, s1_1n, s1_s, s2_0, s2_1i, s2_1r, s2_1w, s2_1n, s2_s, gI_sI, gI_sR, gI_sL, gI_sD, gR_sI, gR_sR, gR_sL, gR_sD, gL_sI, gL_sR, gL_sL, gL_sD, gD_sI, gD_sR, gD_sL, gD_sD, isK_sI, isK_sR, isK_sL, isK_sD, inL_sI, inL_sR, inL_sL, inL_sD, nx_sI, nx_sR, nx_sL, nx_sD, kd_sI, kd_sR, kd_sL, kd_sD, ln_sI, ln_sR, ln_sL, ln_sD, ↓reduceIte, c8_n, c8_1, c8_2, c8_3, c8_4, Nat.reduceAdd, k_s S, k_land S, k_nodes S, k_hear S, k_routes S, k_traffic S, k_market S, g_cnt S, r_land S, r_routes S, r_traffic S, r_market S, r_nodes S, r_hear S, r_rland S, r_tland S, r_troutes S, ii_succ, hh1, k_s S1, k_land S1, k_nodes S1, k_hear S1, k_routes S1, k_traffic S1, k_market S1, g_cnt S1, r_land S1, r_routes S1, r_traffic S1, r_market S1, r_nodes S1, r_hear S1, r_rland S1, r_tland S1, r_troutes S1, l_nodes S1 hn, l_hear S1 hn, r_node S1 hn, r_queue S1 hn, r_set S1 hn, r_frames S1 hn, r_bits S1 hn, k_node S1 hn, k_queue S1 hn, k_frames S1 hn, k_set S1 hn, k_bits S1 hn, ii_nat (lt31 hn), hg, k_land Sg, k_s Sg, k_land Sg, k_nodes Sg, k_hear Sg, k_routes Sg, k_traffic Sg, k_market Sg, g_cnt Sg, r_land Sg, r_routes Sg, r_traffic Sg, r_market Sg, r_nodes Sg, r_hear Sg, r_rland Sg, r_tland Sg, r_troutes Sg, l_nodes Sg hn, l_hear Sg hn, r_node Sg hn, r_queue Sg hn, r_set Sg hn, r_frames Sg hn, r_bits Sg hn, k_node Sg hn, k_queue Sg hn, k_frames Sg hn, k_set Sg hn, k_bits Sg hn, ii_nat (lt31 hn), hc, hg2, k_land Sg2, r1]
theorem vx_node (A : AI n h) (V : CA n h α) (W : FN n h) (hr : okR cM sM h 1 6 = true) (x y r : Int32) {ch : Int32} (hc : ch = 0 ∨ ch = 1) : ∃ rs h', (∀ Q, WP Gm j_S_node 0 [some (.inr (.inl (some 1))), some (.inl x), some (.inl y), some (.inl r), some (.inl ch)] [] h Q = Q rs h') ∧ vr9 mB9 rs (nde9 n α x y r ch) ∧ CA (if nodeOK x y r = true ∧ n < 8 then n + 1 else n) h' (nde9 n α x y r ch).2.2 := by
  have S := A.1
  have hn := n8 S
  have e8 : (ii n < (8 : Int32)) = (n < 8) := ii_lt (j := 8) (by omega) (by omega)
  unfold nde9
  cases hb : nodeOK x y r with
  | false =>
    rw [if_pos rfl, if_neg (by simp)]
    refine ⟨.inr 0, _, fun Q => ?_, Or.inr ⟨0, by omega, rfl, rfl⟩, V.ex S (Ex.hN h kc_IllegalArgumentException 0 6)⟩
    unfold nodeOK at hb
    cases e1 : ((decide (0 ≤ x) && decide (x ≤ 29)) && (decide (0 ≤ y) && decide (y ≤ 29))) with
    | false => simp only [↓e_S_node_0, ↓e_S_node_1, ↓e_S_node_2, ↓e_S_node_5, ↓e_S_node_8, ↓e_S_node_9, ↓e_S_node_12, ↓e_S_node_15, ↓e_S_node_25, ↓e_S_node_26, ↓e_S_node_29, ↓e_S_node_32, ↓e_S_node_34, ↓e_S_node_37, ↓e_S_node_47, ↓e_S_node_48, ↓e_S_node_51, ↓e_S_node_52, ↓e_S_node_53, ↓e_S_node_54, ↓e_S_node_56, ↓e_S_node_59, not_true_eq_false, not_false_eq_true, one0, true_or, or_true, eq_self, bI_z, bI_nz, bI_o, b_ft, bI_1, bI_0, ↓kC_l, ↓kC_r, Option.toList_some, Option.toList_none, List.cons_append, List.nil_append, s1_0, s1_1i, s1_1r, s1_1w, s1_1n, s1_s, s2_0, s2_1i, s2_1r, s2_1w, s2_1n, s2_s, gI_sI, gI_sR, gI_sL, gI_sD, gR_sI, gR_sR, gR_sL, gR_sD, gL_sI, gL_sR, gL_sL, gL_sD, gD_sI, gD_sR, gD_sL, gD_sD, isK_sI, isK_sR, isK_sL, isK_sD, inL_sI, inL_sR, inL_sL, inL_sD, nx_sI, nx_sR, nx_sL, nx_sD, kd_sI, kd_sR, kd_sL, kd_sD, ln_sI, ln_sR, ln_sL, ln_sD, ↓reduceIte, c8_n, c8_1, c8_2, c8_3, c8_4, Nat.reduceAdd, k_s S, k_land S, k_nodes S, k_hear S, k_routes S, k_traffic S, k_market S, g_cnt S, r_land S, r_routes S, r_traffic S, r_market S, r_nodes S, r_hear S, r_rland S, r_tland S, r_troutes S, q_isPlace, q_isReach, e1, hr]
    | true =>
      cases e3 : (decide (1 ≤ r) && decide (r ≤ 42)) with
      | false => simp only [↓e_S_node_0, ↓e_S_node_1, ↓e_S_node_2, ↓e_S_node_5, ↓e_S_node_8, ↓e_S_node_9, ↓e_S_node_12, ↓e_S_node_15, ↓e_S_node_25, ↓e_S_node_26, ↓e_S_node_29, ↓e_S_node_32, ↓e_S_node_34, ↓e_S_node_37, ↓e_S_node_47, ↓e_S_node_48, ↓e_S_node_51, ↓e_S_node_52, ↓e_S_node_53, ↓e_S_node_54, ↓e_S_node_56, ↓e_S_node_59, not_true_eq_false, not_false_eq_true, one0, true_or, or_true, eq_self, bI_z, bI_nz, bI_o, b_ft, bI_1, bI_0, ↓kC_l, ↓kC_r, Option.toList_some, Option.toList_none, List.cons_append, List.nil_append, s1_0, s1_1i, s1_1r, s1_1w, s1_1n, s1_s, s2_0, s2_1i, s2_1r, s2_1w, s2_1n, s2_s, gI_sI, gI_sR, gI_sL, gI_sD, gR_sI, gR_sR, gR_sL, gR_sD, gL_sI, gL_sR, gL_sL, gL_sD, gD_sI, gD_sR, gD_sL, gD_sD, isK_sI, isK_sR, isK_sL, isK_sD, inL_sI, inL_sR, inL_sL, inL_sD, nx_sI, nx_sR, nx_sL, nx_sD, kd_sI, kd_sR, kd_sL, kd_sD, ln_sI, ln_sR, ln_sL, ln_sD, ↓reduceIte, c8_n, c8_1, c8_2, c8_3, c8_4, Nat.reduceAdd, k_s S, k_land S, k_nodes S, k_hear S, k_routes S, k_traffic S, k_market S, g_cnt S, r_land S, r_routes S, r_traffic S, r_market S, r_nodes S, r_hear S, r_rland S, r_tland S, r_troutes S, q_isPlace, q_isReach, e1, e3, hr]
      | true =>
        rw [← Bool.and_assoc, e1, e3] at hb
        cases hb
  | true =>
    have hb2 := hb
    unfold nodeOK at hb2
    rw [← Bool.and_assoc, Bool.and_eq_true] at hb2
    obtain ⟨e1, e3⟩ := hb2
    rw [if_neg (show ¬ true = false by decide)]
    by_cases h8 : n < 8
    · rw [if_pos h8, if_pos ⟨rfl, h8⟩]
      obtain ⟨h', r1, r2⟩ := ca_add A V h8 W x y r hc
      refine ⟨.inl (some (.inl (ii n))), h', fun Q => ?_, Or.inl ⟨rfl, rfl⟩, r2⟩
      simp only [↓e_S_node_0, ↓e_S_node_1, ↓e_S_node_2, ↓e_S_node_5, ↓e_S_node_8, ↓e_S_node_9, ↓e_S_node_12, ↓e_S_node_15, ↓e_S_node_25, ↓e_S_node_26, ↓e_S_node_29, ↓e_S_node_32, ↓e_S_node_34, ↓e_S_node_37, ↓e_S_node_47, ↓e_S_node_48, ↓e_S_node_51, ↓e_S_node_52, ↓e_S_node_53, ↓e_S_node_54, ↓e_S_node_56, ↓e_S_node_59, not_true_eq_false, not_false_eq_true, one0, true_or, or_true, eq_self, bI_z, bI_nz, bI_o, b_ft, bI_1, bI_0, ↓kC_l, ↓kC_r, Option.toList_some, Option.toList_none, List.cons_append, List.nil_append, s1_0, s1_1i, s1_1r, s1_1w, s1_1n, s1_s, s2_0, s2_1i, s2_1r, s2_1w, s2_1n, s2_s, gI_sI, gI_sR, gI_sL, gI_sD, gR_sI, gR_sR, gR_sL, gR_sD, gL_sI, gL_sR, gL_sL, gL_sD, gD_sI, gD_sR, gD_sL, gD_sD, isK_sI, isK_sR, isK_sL, isK_sD, inL_sI, inL_sR, inL_sL, inL_sD, nx_sI, nx_sR, nx_sL, nx_sD, kd_sI, kd_sR, kd_sL, kd_sD, ln_sI, ln_sR, ln_sL, ln_sD, ↓reduceIte, c8_n, c8_1, c8_2, c8_3, c8_4, Nat.reduceAdd, k_s S, k_land S, k_nodes S, k_hear S, k_routes S, k_traffic S, k_market S, g_cnt S, r_land S, r_routes S, r_traffic S, r_market S, r_nodes S, r_hear S, r_rland S, r_tland S, r_troutes S, q_isPlace, q_isReach, e1, e3, e8, h8, r1]
    · rw [if_neg h8, if_neg (fun w => h8 w.2)]
      refine ⟨.inr 1, _, fun Q => ?_, Or.inr ⟨1, by omega, rfl, rfl⟩, V.ex S (Ex.hN h kc_IllegalStateException 0 6)⟩
      simp only [↓e_S_node_0, ↓e_S_node_1, ↓e_S_node_2, ↓e_S_node_5, ↓e_S_node_8, ↓e_S_node_9, ↓e_S_node_12, ↓e_S_node_15, ↓e_S_node_25, ↓e_S_node_26, ↓e_S_node_29, ↓e_S_node_32, ↓e_S_node_34, ↓e_S_node_37, ↓e_S_node_47, ↓e_S_node_48, ↓e_S_node_51, ↓e_S_node_52, ↓e_S_node_53, ↓e_S_node_54, ↓e_S_node_56, ↓e_S_node_59, not_true_eq_false, not_false_eq_true, one0, true_or, or_true, eq_self, bI_z, bI_nz, bI_o, b_ft, bI_1, bI_0, ↓kC_l, ↓kC_r, Option.toList_some, Option.toList_none, List.cons_append, List.nil_append, s1_0, s1_1i, s1_1r, s1_1w, s1_1n, s1_s, s2_0, s2_1i, s2_1r, s2_1w, s2_1n, s2_s, gI_sI, gI_sR, gI_sL, gI_sD, gR_sI, gR_sR, gR_sL, gR_sD, gL_sI, gL_sR, gL_sL, gL_sD, gD_sI, gD_sR, gD_sL, gD_sD, isK_sI, isK_sR, isK_sL, isK_sD, inL_sI, inL_sR, inL_sL, inL_sD, nx_sI, nx_sR, nx_sL, nx_sD, kd_sI, kd_sR, kd_sL, kd_sD, ln_sI, ln_sR, ln_sL, ln_sD, ↓reduceIte, c8_n, c8_1, c8_2, c8_3, c8_4, Nat.reduceAdd, k_s S, k_land S, k_nodes S, k_hear S, k_routes S, k_traffic S, k_market S, g_cnt S, r_land S, r_routes S, r_traffic S, r_market S, r_nodes S, r_hear S, r_rland S, r_tland S, r_troutes S, q_isPlace, q_isReach, e1, e3, e8, h8, hr]
end XN1
