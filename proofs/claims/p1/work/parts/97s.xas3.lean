/-! xas3: the reference begins, receives, ends, in values -/
section RSU
variable {τ τ' : Nat → Nat} {n A c B : Nat} {K : Int32} {p : Nat → Nat} {h h' : Hp} {α : As}
theorem pop_q (V : RA τ n p c B h α) {i : Nat} (hi : i < n) (hk : 0 < α.2.1 i) : ∃ f, el h (p i + 1) 0 = some f ∧ τ f = 9 ∧ (∀ w, w < 5 → gI h f w = α.2.2.1 i 0 w) ∧ ∀ Q, WP Gm j_ArrayList_get 0 [some (.inr (.inl (some (p i + 1)))), some (.inl 0)] [] h Q = Q (.inl (some (.inr (.inl (some f))))) h := by
  obtain ⟨c0, c1, L⟩ := V.q hi
  obtain ⟨f, f1, f2, f3, f4⟩ := q_zget L hk
  exact ⟨f, f1, f3.1, f3.2, f4⟩
/-- node i begins to send, its route r -/
theorem qx_begin {i : Nat} (R : RM τ n p A c B K h) (V : RA τ n p c B h α) (hi : i < n) (hl : ¬ 0 < gI h (p i) 7) (hq : ¬ α.2.1 i = 0) {t : Nat} (ht : t < n) (ht1 : α.2.2.1 i 0 1 = ii t) (hs : gI h 121 1 = ii B) : ∃ h', (∀ Q, WP Gm j_Mdl_begin 0 [some (.inr (.inl (some 121))), some (.inr (.inl (some (p i)))), none] [] h Q = Q (.inl none) h') ∧ RM τ n p A c B K h' ∧ RA τ n p c B h' (trn9 α i) ∧ Ext τ h τ h' ∧ Ag τ (Sdr i) h h' ∧ gI h' (p i) 11 = gI h (p i) 11 ∧ nx h' = nx h ∧ sc h' = sc h := by
  have hn := R.n8
  obtain ⟨N1, N2, ⟨k, c0, k1, c1, L⟩, -, N5⟩ := R.nd hi
  have tp := R.nt hi
  have e5 : gI h (p i) 5 = α.1 i 5 := V.f hi 5 (by omega) (by omega)
  have e12 : gI h (p i) 12 = α.1 i 11 := V.f hi 11 (by omega) (by omega)
  obtain ⟨f, f1, f3, fv, f4⟩ := pop_q V hi (by omega)
  obtain ⟨a1, a2, t', a3, a4⟩ := R.fr f3
  have fz := k_int R.F a1 (by omega)
  have in1 : inL h f 1 = true := inL_n (i := 1) (by omega) (by omega)
  have z1 : (1 : Int32).toNatClampNeg = 1 := by decide
  have z2 : (2 : Int32).toNatClampNeg = 2 := by decide
  have ev : gI h f 1 = ii t := (fv 1 (by omega)).trans ht1
  have inT : inL h (p i + 3) (ii t) = true := inL_n (by omega) (by rw [N1.2.2.2.2.2]; omega)
  have er : gI h (p i + 3) t = α.1 (70 + i) t := V.rt hi (by omega)
  have tnt : tn9 (α.2.2.1 i 0 1) = t := by rw [ht1]; exact ii_nat (by omega)
  unfold trn9
  rw [tnt]
  by_cases hw : α.1 i 5 ≤ 0
  · have hw' : gI h (p i) 5 ≤ 0 := by rw [e5]; exact hw
    rw [if_pos hw]
    have pre : ∀ Q, WP Gm j_Mdl_begin 0 [some (.inr (.inl (some 121))), some (.inr (.inl (some (p i)))), none] [] h Q = WP Gm j_Mdl_begin 37 [some (.inr (.inl (some 121))), some (.inr (.inl (some (p i)))), some (.inl (gI h (p i + 3) t))] [] h Q := by
      intro Q
      simp only [↓e_Mdl_begin_0, ↓e_Mdl_begin_1, ↓e_Mdl_begin_4, ↓e_Mdl_begin_7, ↓e_Mdl_begin_8, ↓e_Mdl_begin_9, ↓e_Mdl_begin_12, ↓e_Mdl_begin_13, ↓e_Mdl_begin_14, ↓e_Mdl_begin_17, ↓e_Mdl_begin_18, ↓e_Mdl_begin_19, ↓e_Mdl_begin_22, ↓e_Mdl_begin_23, ↓e_Mdl_begin_26, ↓e_Mdl_begin_27, ↓e_Mdl_begin_30, ↓e_Mdl_begin_33, ↓e_Mdl_begin_34, ↓e_Mdl_begin_35, ↓e_Mdl_begin_36, ↓e_Mdl_begin_38, ↓e_Mdl_begin_39, ↓e_Mdl_begin_42, ↓e_Mdl_begin_43, ↓e_Mdl_begin_44, ↓e_Mdl_begin_47, ↓e_Mdl_begin_48, ↓e_Mdl_begin_49, ↓e_Mdl_begin_50, ↓e_Mdl_begin_53, ↓e_Mdl_begin_54, ↓e_Mdl_begin_55, ↓e_Mdl_begin_58, ↓e_Mdl_begin_59, ↓e_Mdl_begin_62, ↓e_Mdl_begin_65, ↓e_Mdl_begin_66, ↓e_Mdl_begin_67, ↓e_Mdl_begin_70, ↓e_Mdl_begin_71, ↓e_Mdl_begin_72, ↓e_Mdl_begin_75, ↓e_Mdl_begin_76, ↓e_Mdl_begin_77, ↓e_Mdl_begin_80, ↓e_Mdl_begin_83, ↓e_Mdl_begin_84, ↓e_Mdl_begin_85, ↓e_Mdl_begin_88, ↓e_Mdl_begin_89, ↓e_Mdl_begin_90, ↓e_Mdl_begin_93, not_true_eq_false, not_false_eq_true, one0, true_or, or_true, eq_self, bI_z, bI_nz, bI_o, b_ft, bI_1, bI_0, ↓kC_l, ↓kC_r, Option.toList_some, Option.toList_none, List.cons_append, List.nil_append, s1_0, s1_1i, s1_1r, s1_1w, s1_1n, s1_s, s2_0, s2_1i, s2_1r, s2_1w, s2_1n, s2_s, gI_sI, gI_sR, gI_sL, gI_sD, gR_sI, gR_sR, gR_sL, gR_sD, gL_sI, gL_sR, gL_sL, gL_sD, gD_sI, gD_sR, gD_sL, gD_sD, isK_sI, isK_sR, isK_sL, isK_sD, inL_sI, inL_sR, inL_sL, inL_sD, nx_sI, nx_sR, nx_sL, nx_sD, kd_sI, kd_sR, kd_sL, kd_sD, ln_sI, ln_sR, ln_sL, ln_sD, ↓reduceIte, c8_n, c8_1, c8_2, c8_3, c8_4, Nat.reduceAdd, R.nk hi, R.nz hi, hw', N1.2.2.1.1, N1.2.2.1.2.2, L.kd, f4, a1, fz, in1, z1, ev, inT, N1.2.2.2.2.1, ii_nat (show t < 2147483648 by omega)]
    rcases N2 t (by omega) with e | ⟨r, r1, r2⟩
    · obtain ⟨h', b1, b2, b3, b4, b5, b6, b7⟩ := qx_drop R V hi hl hq
      rw [if_pos (by rw [← er, e])]
      refine ⟨h', fun Q => ?_, b2, b3, b4, b5, ?_, b6, b7⟩
      · rw [pre, e]
        simp only [↓e_Mdl_begin_0, ↓e_Mdl_begin_1, ↓e_Mdl_begin_4, ↓e_Mdl_begin_7, ↓e_Mdl_begin_8, ↓e_Mdl_begin_9, ↓e_Mdl_begin_12, ↓e_Mdl_begin_13, ↓e_Mdl_begin_14, ↓e_Mdl_begin_17, ↓e_Mdl_begin_18, ↓e_Mdl_begin_19, ↓e_Mdl_begin_22, ↓e_Mdl_begin_23, ↓e_Mdl_begin_26, ↓e_Mdl_begin_27, ↓e_Mdl_begin_30, ↓e_Mdl_begin_33, ↓e_Mdl_begin_34, ↓e_Mdl_begin_35, ↓e_Mdl_begin_36, ↓e_Mdl_begin_37, ↓e_Mdl_begin_38, ↓e_Mdl_begin_39, ↓e_Mdl_begin_42, ↓e_Mdl_begin_43, ↓e_Mdl_begin_44, ↓e_Mdl_begin_47, ↓e_Mdl_begin_48, ↓e_Mdl_begin_49, ↓e_Mdl_begin_50, ↓e_Mdl_begin_53, ↓e_Mdl_begin_54, ↓e_Mdl_begin_55, ↓e_Mdl_begin_58, ↓e_Mdl_begin_59, ↓e_Mdl_begin_62, ↓e_Mdl_begin_65, ↓e_Mdl_begin_66, ↓e_Mdl_begin_67, ↓e_Mdl_begin_70, ↓e_Mdl_begin_71, ↓e_Mdl_begin_72, ↓e_Mdl_begin_75, ↓e_Mdl_begin_76, ↓e_Mdl_begin_77, ↓e_Mdl_begin_80, ↓e_Mdl_begin_83, ↓e_Mdl_begin_84, ↓e_Mdl_begin_85, ↓e_Mdl_begin_88, ↓e_Mdl_begin_89, ↓e_Mdl_begin_90, ↓e_Mdl_begin_93, not_true_eq_false, not_false_eq_true, one0, true_or, or_true, eq_self, bI_z, bI_nz, bI_o, b_ft, bI_1, bI_0, ↓kC_l, ↓kC_r, Option.toList_some, Option.toList_none, List.cons_append, List.nil_append, s1_0, s1_1i, s1_1r, s1_1w, s1_1n, s1_s, s2_0, s2_1i, s2_1r, s2_1w, s2_1n, s2_s, gI_sI, gI_sR, gI_sL, gI_sD, gR_sI, gR_sR, gR_sL, gR_sD, gL_sI, gL_sR, gL_sL, gL_sD, gD_sI, gD_sR, gD_sL, gD_sD, isK_sI, isK_sR, isK_sL, isK_sD, inL_sI, inL_sR, inL_sL, inL_sD, nx_sI, nx_sR, nx_sL, nx_sD, kd_sI, kd_sR, kd_sL, kd_sD, ln_sI, ln_sR, ln_sL, ln_sD, ↓reduceIte, c8_n, c8_1, c8_2, c8_3, c8_4, Nat.reduceAdd, R.nk hi, R.nz hi, R.k, b1]
      · have h10 := b3.f hi 10 (by omega) (by omega)
        have h10' := V.f hi 10 (by omega) (by omega)
        have e1 : (drp9 α i).1 i 10 = α.1 i 10 := by
          show (if i = 50 ∧ 10 = 6 then _ else if i = i ∧ 10 = 6 then _ else _) = _
          rw [if_neg (by omega), if_neg (by omega)]
          rfl
        exact h10.trans (e1.trans h10'.symm)
    · have hr1 : ¬ ii r = -1 := by
        have : ∀ r, r < 8 → ¬ ii r = -1 := by decide
        exact this r (by omega)
      have hr1' : (ii r = -1) = False := eq_false hr1
      rw [if_neg (by rw [← er, r2]; exact hr1), ← er, r2]
      generalize hg : sI h (p i) 8 (ii r) = g
      have Xg : Ext τ h τ g := by rw [← hg]; exact Ext.refl τ h
      have Gg : Ag τ (fun s => s = 1 ∨ s = 16 + 8 * i) h g := by rw [← hg]; exact (Ag.refl _ h).sI (Or.inr tp)
      have g7 : gI g (p i) 7 = gI h (p i) 7 := by rw [← hg, gI_sI, if_neg (fun w => by have := w.2; omega)]
      have g11 : gI g (p i) 11 = gI h (p i) 11 := by rw [← hg, gI_sI, if_neg (fun w => by have := w.2; omega)]
      have g8 : gI g (p i) 8 = ii r := by rw [← hg, gI_sI, if_pos ⟨rfl, rfl⟩]
      have Rg : RM τ n p A c B K g := R.node Xg Gg (fun j => by rw [← hg]; rfl) (fun _ w => by rw [g7] at w; exact absurd w hl) (fun _ => by
        obtain ⟨a, a5, a6⟩ := N5
        exact ⟨a, a5, by rw [g11]; exact a6⟩)
      have Vg : RA τ n p c B g (asV α i 8 (ii r)) := by rw [← hg]; exact V.set (f := 8) R hi hn _ (fun w => by omega)
      obtain ⟨f', y1, y3, yv, y4⟩ := pop_q Vg hi (show 0 < (asV α i 8 (ii r)).2.1 i by show 0 < α.2.1 i; omega)
      have ef : f' = f := by
        rw [← hg] at y1
        exact Option.some.inj (y1.symm.trans f1)
      subst ef
      have ga1 : isK g f' 100 = true := Xg.k a1
      have in2 : inL g f' 2 = true := inL_n (i := 2) (by omega) (by rw [Xg.l a1]; omega)
      have gr : gR g (p i) 4 = some (p i + 1) := by rw [← hg]; exact N1.2.2.1.1
      have ev2 : gI g f' 2 = α.2.2.1 i 0 2 := yv 2 (by omega)
      generalize hlen : α.2.2.1 i 0 2 = len at *
      -- since first, then left
      generalize hg1 : sI g (p i) 7 len = g1
      have e9 : ∀ v, RM τ n p A c B K (sI g (p i) 7 v) := fun v => Rg.node (Ext.refl τ g) ((Ag.refl _ g).sI (Or.inr tp)) (fun j => rfl) (fun _ w => ⟨⟨r, r1, by rw [gI_sI, if_neg (fun w => by have := w.2; omega)]; exact g8⟩, by
          rw [gI_sI, if_neg (fun w => by have := w.1; omega), ← hg, gI_sI, if_neg (fun w => by have := w.1; omega), V.ql hi]
          obtain ⟨c3, -, L3⟩ := V.q hi
          obtain ⟨a9, L4⟩ := L3.li
          have := L4.b
          exact ii_zn (by omega) hq⟩) (fun _ => by
          obtain ⟨a, a5, a6⟩ := N5
          exact ⟨a, a5, by rw [gI_sI, if_neg (fun w => by have := w.2; omega), g11]; exact a6⟩)
      have R1 : RM τ n p A c B K g1 := by rw [← hg1]; exact e9 len
      have k1' : isK g1 (p i) kc_MNode = true := R1.nk hi
      have s9 : gI g1 121 1 = ii B := by
        have : ¬ 121 = p i := fun e => by rw [← e, R.t1] at tp; omega
        rw [← hg1, gI_sI, if_neg (fun w => this w.1), ← hg, gI_sI, if_neg (fun w => this w.1)]
        exact hs
      generalize hg2 : sI (sI (sI g1 (p i) 9 1) (p i) 10 (ii B)) (p i) 12 (gI h (p i) 12 + 1) = g2
      have n12 : gI g1 (p i) 12 = gI h (p i) 12 := by rw [← hg1, gI_sI, if_neg (fun w => by have := w.2; omega), ← hg, gI_sI, if_neg (fun w => by have := w.2; omega)]
      have R2 : RM τ n p A c B K g2 := by
        rw [← hg2]
        have a := R1.fld (f := 9) hi (by omega) 1
        have b : RM τ n p A c B K (sI (sI g1 (p i) 9 1) (p i) 10 (ii B)) := a.sw ((Sw.refl τ _).sI (by rw [tp]; unfold OW; omega))
        exact b.fld (f := 11) hi (by omega) _
      -- the values, since before left
      have V2 : RA τ n p c B g2 (beg9 α i (ii r)) := by
        have w1 : RA τ n p c B (sI g (p i) 10 (ii B)) (asV α i 8 (ii r)) := Vg.setS Rg hi (Nat.le_refl B)
        have q1 : RM τ n p A c B K (sI g (p i) 10 (ii B)) := Rg.sw ((Sw.refl τ g).sI (by rw [tp]; unfold OW; omega))
        have w2 : RA τ n p c B (sI (sI g (p i) 10 (ii B)) (p i) 7 len) (asV (asV α i 8 (ii r)) i 7 len) := w1.set (f := 7) q1 hi hn len (fun _ _ => ⟨B, Nat.le_refl _, by rw [gI_sI, if_pos ⟨rfl, rfl⟩]⟩)
        have q2 : RM τ n p A c B K (sI (sI g (p i) 10 (ii B)) (p i) 7 len) := by
          have e : sI (sI g (p i) 10 (ii B)) (p i) 7 len = sI (sI g (p i) 7 len) (p i) 10 (ii B) := by
            refine Prod.ext (funext fun a => funext fun j => ?_) rfl
            show (if a = p i ∧ j = 7 then len else if a = p i ∧ j = 10 then ii B else g.1 a j) = (if a = p i ∧ j = 10 then ii B else if a = p i ∧ j = 7 then len else g.1 a j)
            by_cases x1 : a = p i ∧ j = 7
            · rw [if_pos x1, if_neg (fun w => by have := x1.2; have := w.2; omega), if_pos x1]
            · rw [if_neg x1, if_neg x1]
          rw [e]
          exact (e9 len).sw ((Sw.refl τ _).sI (by rw [tp]; unfold OW; omega))
        have w3 := w2.set (f := 9) q2 hi hn 1 (fun w => by omega)
        have q3 := q2.fld (f := 9) hi (by omega) 1
        have w4 := w3.set (f := 11) q3 hi hn (gI h (p i) 12 + 1) (fun w => by omega)
        have eh : sI (sI (sI (sI g (p i) 10 (ii B)) (p i) 7 len) (p i) (rf9 9) 1) (p i) (rf9 11) (gI h (p i) 12 + 1) = g2 := by
          rw [← hg2, ← hg1]
          refine Prod.ext (funext fun a => funext fun j => ?_) rfl
          show (if a = p i ∧ j = 12 then gI h (p i) 12 + 1 else if a = p i ∧ j = 9 then 1 else if a = p i ∧ j = 7 then len else if a = p i ∧ j = 10 then ii B else g.1 a j) = (if a = p i ∧ j = 12 then gI h (p i) 12 + 1 else if a = p i ∧ j = 10 then ii B else if a = p i ∧ j = 9 then 1 else if a = p i ∧ j = 7 then len else g.1 a j)
          by_cases x0 : a = p i
          · subst x0
            by_cases y1 : j = 12
            · simp [y1]
            · by_cases y2 : j = 10
              · simp [y2]
              · simp [y1, y2]
          · simp [x0]
        rw [eh, e12] at w4
        unfold beg9
        rw [hlen]
        exact w4
      refine ⟨g2, fun Q => ?_, R2, V2, ?_, ?_, ?_, ?_, ?_⟩
      · rw [pre, r2]
        simp only [↓e_Mdl_begin_0, ↓e_Mdl_begin_1, ↓e_Mdl_begin_4, ↓e_Mdl_begin_7, ↓e_Mdl_begin_8, ↓e_Mdl_begin_9, ↓e_Mdl_begin_12, ↓e_Mdl_begin_13, ↓e_Mdl_begin_14, ↓e_Mdl_begin_17, ↓e_Mdl_begin_18, ↓e_Mdl_begin_19, ↓e_Mdl_begin_22, ↓e_Mdl_begin_23, ↓e_Mdl_begin_26, ↓e_Mdl_begin_27, ↓e_Mdl_begin_30, ↓e_Mdl_begin_33, ↓e_Mdl_begin_34, ↓e_Mdl_begin_35, ↓e_Mdl_begin_36, ↓e_Mdl_begin_37, ↓e_Mdl_begin_38, ↓e_Mdl_begin_39, ↓e_Mdl_begin_42, ↓e_Mdl_begin_43, ↓e_Mdl_begin_44, ↓e_Mdl_begin_47, ↓e_Mdl_begin_48, ↓e_Mdl_begin_49, ↓e_Mdl_begin_50, ↓e_Mdl_begin_53, ↓e_Mdl_begin_54, ↓e_Mdl_begin_55, ↓e_Mdl_begin_58, ↓e_Mdl_begin_59, ↓e_Mdl_begin_62, ↓e_Mdl_begin_65, ↓e_Mdl_begin_66, ↓e_Mdl_begin_67, ↓e_Mdl_begin_70, ↓e_Mdl_begin_71, ↓e_Mdl_begin_72, ↓e_Mdl_begin_75, ↓e_Mdl_begin_76, ↓e_Mdl_begin_77, ↓e_Mdl_begin_80, ↓e_Mdl_begin_83, ↓e_Mdl_begin_84, ↓e_Mdl_begin_85, ↓e_Mdl_begin_88, ↓e_Mdl_begin_89, ↓e_Mdl_begin_90, ↓e_Mdl_begin_93, not_true_eq_false, not_false_eq_true, one0, true_or, or_true, eq_self, bI_z, bI_nz, bI_o, b_ft, bI_1, bI_0, ↓kC_l, ↓kC_r, Option.toList_some, Option.toList_none, List.cons_append, List.nil_append, s1_0, s1_1i, s1_1r, s1_1w, s1_1n, s1_s, s2_0, s2_1i, s2_1r, s2_1w, s2_1n, s2_s, gI_sI, gI_sR, gI_sL, gI_sD, gR_sI, gR_sR, gR_sL, gR_sD, gL_sI, gL_sR, gL_sL, gL_sD, gD_sI, gD_sR, gD_sL, gD_sD, isK_sI, isK_sR, isK_sL, isK_sD, inL_sI, inL_sR, inL_sL, inL_sD, nx_sI, nx_sR, nx_sL, nx_sD, kd_sI, kd_sR, kd_sL, kd_sD, ln_sI, ln_sR, ln_sL, ln_sD, ↓reduceIte, c8_n, c8_1, c8_2, c8_3, c8_4, Nat.reduceAdd, hr1', R.nk hi, R.nz hi, hg, Rg.nk hi, gr, (show isK g (p i + 1) kc_ArrayList = true from Xg.k L.kd), y4, ga1, fz, in2, z2, ev2, hg1, k1', R1.k, s9, n12, hg2, Nat.reduceEqDiff, and_false, and_self]
      · rw [← hg2, ← hg1, ← hg]; exact Ext.refl τ h
      · rw [← hg2, ← hg1, ← hg]
        exact (((((Ag.refl _ h).sI (by rw [tp]; unfold Sdr; omega)).sI (by rw [tp]; unfold Sdr; omega)).sI (by rw [tp]; unfold Sdr; omega)).sI (by rw [tp]; unfold Sdr; omega)).sI (by rw [tp]; unfold Sdr; omega)
      · rw [← hg2, gI_sI, if_neg (fun w => by have := w.2; omega), gI_sI, if_neg (fun w => by have := w.2; omega), gI_sI, if_neg (fun w => by have := w.2; omega), ← hg1, gI_sI, if_neg (fun w => by have := w.2; omega), g11]
      · rw [← hg2, ← hg1, ← hg]; rfl
      · rw [← hg2, ← hg1, ← hg]; rfl
  · have hw' : ¬ gI h (p i) 5 ≤ 0 := by rw [e5]; exact hw
    rw [if_neg hw]
    refine ⟨sI h (p i) 5 (α.1 i 5 - 1), fun Q => ?_, R.fld (f := 5) hi (by omega) _, V.set (f := 5) R hi hn _ (fun w => by omega), Ext.refl τ h, (Ag.refl _ h).sI (by rw [tp]; unfold Sdr; omega), by rw [gI_sI, if_neg (fun w => by have := w.2; omega)], rfl, rfl⟩
    have hw2 : ¬ α.1 i 5 ≤ 0 := hw
    simp only [↓e_Mdl_begin_0, ↓e_Mdl_begin_1, ↓e_Mdl_begin_4, ↓e_Mdl_begin_7, ↓e_Mdl_begin_8, ↓e_Mdl_begin_9, ↓e_Mdl_begin_12, ↓e_Mdl_begin_13, ↓e_Mdl_begin_14, ↓e_Mdl_begin_17, ↓e_Mdl_begin_18, ↓e_Mdl_begin_19, ↓e_Mdl_begin_22, ↓e_Mdl_begin_23, ↓e_Mdl_begin_26, ↓e_Mdl_begin_27, ↓e_Mdl_begin_30, ↓e_Mdl_begin_33, ↓e_Mdl_begin_34, ↓e_Mdl_begin_35, ↓e_Mdl_begin_36, ↓e_Mdl_begin_37, ↓e_Mdl_begin_38, ↓e_Mdl_begin_39, ↓e_Mdl_begin_42, ↓e_Mdl_begin_43, ↓e_Mdl_begin_44, ↓e_Mdl_begin_47, ↓e_Mdl_begin_48, ↓e_Mdl_begin_49, ↓e_Mdl_begin_50, ↓e_Mdl_begin_53, ↓e_Mdl_begin_54, ↓e_Mdl_begin_55, ↓e_Mdl_begin_58, ↓e_Mdl_begin_59, ↓e_Mdl_begin_62, ↓e_Mdl_begin_65, ↓e_Mdl_begin_66, ↓e_Mdl_begin_67, ↓e_Mdl_begin_70, ↓e_Mdl_begin_71, ↓e_Mdl_begin_72, ↓e_Mdl_begin_75, ↓e_Mdl_begin_76, ↓e_Mdl_begin_77, ↓e_Mdl_begin_80, ↓e_Mdl_begin_83, ↓e_Mdl_begin_84, ↓e_Mdl_begin_85, ↓e_Mdl_begin_88, ↓e_Mdl_begin_89, ↓e_Mdl_begin_90, ↓e_Mdl_begin_93, not_true_eq_false, not_false_eq_true, one0, true_or, or_true, eq_self, bI_z, bI_nz, bI_o, b_ft, bI_1, bI_0, ↓kC_l, ↓kC_r, Option.toList_some, Option.toList_none, List.cons_append, List.nil_append, s1_0, s1_1i, s1_1r, s1_1w, s1_1n, s1_s, s2_0, s2_1i, s2_1r, s2_1w, s2_1n, s2_s, gI_sI, gI_sR, gI_sL, gI_sD, gR_sI, gR_sR, gR_sL, gR_sD, gL_sI, gL_sR, gL_sL, gL_sD, gD_sI, gD_sR, gD_sL, gD_sD, isK_sI, isK_sR, isK_sL, isK_sD, inL_sI, inL_sR, inL_sL, inL_sD, nx_sI, nx_sR, nx_sL, nx_sD, kd_sI, kd_sR, kd_sL, kd_sD, ln_sI, ln_sR, ln_sL, ln_sD, ↓reduceIte, c8_n, c8_1, c8_2, c8_3, c8_4, Nat.reduceAdd, R.nk hi, R.nz hi, e5, hw2, Nat.reduceEqDiff, and_false, and_self]
end RSU
