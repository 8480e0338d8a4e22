/-! xas5: the reference's end in values -/
theorem asV_s (α : As) (i f : Nat) (v : Int32) : (asV α i f v).1 i f = v := if_pos ⟨rfl, rfl⟩
theorem asV_n (α : As) {i f a k : Nat} (v : Int32) (h : ¬ (a = i ∧ k = f)) : (asV α i f v).1 a k = α.1 a k := if_neg h
theorem arv_V (α : As) (w : Nat → Int32) {a k : Nat} (h : a ≠ 50) : (arv9 α w).1 a k = α.1 a k := by
  unfold arv9
  split
  · exact asV_n _ _ fun q => h q.1
  · exact asV_n _ _ fun q => h q.1
theorem rcv_V (α : As) (j : Nat) (w : Nat → Int32) {a k : Nat} (h : a ≠ 50) : (rcv9 α j w).1 a k = α.1 a k := by
  unfold rcv9
  split
  · exact arv_V α w h
  · split
    · exact asV_n _ _ fun q => h q.1
    · rfl
theorem arv_q (α : As) (w : Nat → Int32) : (arv9 α w).2.1 = α.2.1 ∧ (arv9 α w).2.2.1 = α.2.2.1 := by
  unfold arv9
  split
  · exact ⟨rfl, rfl⟩
  · exact ⟨rfl, rfl⟩
theorem rcv_q (α : As) (j i : Nat) (w : Nat → Int32) : α.2.1 i ≤ (rcv9 α j w).2.1 i := by
  unfold rcv9
  split
  · rw [(arv_q α w).1]; exact Nat.le_refl _
  · split
    · exact Nat.le_refl _
    · show _ ≤ (if i = j then α.2.1 j + 1 else α.2.1 i)
      by_cases e : i = j
      · rw [if_pos e, e]; omega
      · rw [if_neg e]; exact Nat.le_refl _
theorem hr_congr {α β : As} {i j : Nat} (h : ∀ a k, a = i ∨ a = j → k ≤ 2 → α.1 a k = β.1 a k) : hr9 α i j = hr9 β i j := by
  unfold hr9 fX
  rw [h i 0 (Or.inl rfl) (by omega), h j 0 (Or.inr rfl) (by omega), h i 1 (Or.inl rfl) (by omega), h j 1 (Or.inr rfl) (by omega), h j 2 (Or.inr rfl) (by omega)]
theorem dr_congr {α β : As} (h : α.1 50 3 = β.1 50 3) : dr9 α = dr9 β := by unfold dr9; rw [h]
section REN
variable {τ τ' : Nat → Nat} {n A c B : Nat} {K : Int32} {p : Nat → Nat} {h h' : Hp} {α : As}
/-- it waits -/
theorem wai_RA {i : Nat} (R : RM τ n p A c B K h) (V : RA τ n p c B h α) (hi : i < n) (v : Int32) : RM τ n p A c B K (sI (sI (sI h (p i) 5 v) (p i) 13 (gI h (p i) 13 + v)) (p i) 14 (gI h (p i) 14 + 1)) ∧ RA τ n p c B (sI (sI (sI h (p i) 5 v) (p i) 13 (gI h (p i) 13 + v)) (p i) 14 (gI h (p i) 14 + 1)) (wai9 α i v) := by
  have hn := R.n8
  have e12 : gI h (p i) 13 = α.1 i 12 := V.f hi 12 (by omega) (by omega)
  have e13 : gI h (p i) 14 = α.1 i 13 := V.f hi 13 (by omega) (by omega)
  have R1 := R.fld (f := 5) hi (by omega) v
  have V1 := V.set (f := 5) R hi hn v (fun w => by omega)
  have R2 := R1.fld (f := 12) hi (by omega) (gI h (p i) 13 + v)
  have V2 := V1.set (f := 12) R1 hi hn (gI h (p i) 13 + v) (fun w => by omega)
  have R3 := R2.fld (f := 13) hi (by omega) (gI h (p i) 14 + 1)
  have V3 := V2.set (f := 13) R2 hi hn (gI h (p i) 14 + 1) (fun w => by omega)
  refine ⟨R3, ?_⟩
  unfold wai9
  rw [← e12, ← e13]
  exact V3
theorem qx_endT {i : Nat} (R : RM τ n p A c B K h) (V : RA τ n p c B h α) (hi : i < n) (hl : ¬ 0 < gI h (p i) 7) (hq : ¬ α.2.1 i = 0) (b : Bool) : ∃ h', (∀ Q, WP Gm j_Mdl_end 63 [some (.inr (.inl (some 121))), some (.inl (ii i)), some (.inr (.inl (some (p i)))), some (.inl (bI b))] [] h Q = Q (.inl none) h') ∧ RM τ n p A c B K h' ∧ RA τ n p c B h' (fin9 α i b) ∧ Ext τ h τ h' ∧ Ag τ (Sdr i) h h' ∧ nx h' = nx h ∧ sc h' = sc h := by
  have hn := R.n8
  have tp := R.nt hi
  have F := R.F
  obtain ⟨N1, -, -, -, N5⟩ := R.nd hi
  generalize hg : sI h (p i) 8 (-1) = g
  have Xg : Ext τ h τ g := by rw [← hg]; exact Ext.refl τ h
  have Gg : Ag τ (fun s => s = 1 ∨ s = 16 + 8 * i) h g := by rw [← hg]; exact (Ag.refl _ h).sI (Or.inr tp)
  have g7 : gI g (p i) 7 = gI h (p i) 7 := by
    rw [← hg]
    simp only [gI_sI, Nat.reduceEqDiff, and_false, ↓reduceIte]
  have g11 : gI g (p i) 11 = gI h (p i) 11 := by
    rw [← hg]
    simp only [gI_sI, Nat.reduceEqDiff, and_false, ↓reduceIte]
  have Rg : RM τ n p A c B K g := R.node Xg Gg (fun j => by rw [← hg]; rfl) (fun _ w => by rw [g7] at w; exact absurd w hl) (fun _ => by
    obtain ⟨a, a5, a6⟩ := N5
    exact ⟨a, a5, by rw [g11]; exact a6⟩)
  have Vg : RA τ n p c B g (asV α i 8 (-1)) := by rw [← hg]; exact V.set (f := 8) R hi hn _ (fun w => by omega)
  unfold fin9
  generalize hβ : asV α i 8 (-1) = β at *
  have hlg : ¬ 0 < gI g (p i) 7 := by rw [g7]; exact hl
  have hqg : ¬ β.2.1 i = 0 := by rw [← hβ]; exact hq
  have ng : nx g = nx h := by rw [← hg]; rfl
  have sg : sc g = sc h := by rw [← hg]; rfl
  have Gd : Ag τ (Sdr i) h g := Gg.mono fun s w => by unfold Sdr; omega
  obtain ⟨M1, -, ⟨k, c0, k1, c1, L⟩, -⟩ := Rg.nd hi
  cases b with
  | true =>
    rw [if_pos rfl]
    obtain ⟨v, u, u1, R1, V1, X, G, n', s'⟩ := Rg.rmvX Vg hi hlg hqg
    have R2 := R1.fld (f := 6) hi (by omega) 0
    have V2 := V1.set (f := 6) R1 hi hn 0 (fun w => by omega)
    refine ⟨sI u (p i) 6 0, fun Q => ?_, R2, V2, Xg.trans (X.trans (Ext.same (fun _ => rfl) (fun _ => rfl) rfl)), ((Gd.trans F Xg (Or.inl rfl) (G.mono fun s w => by unfold Sdr; omega)).sI (by rw [tp]; unfold Sdr; omega)), by show nx u = _; omega, by show sc u = _; omega⟩
    simp only [↓e_Mdl_end_0, ↓e_Mdl_end_1, ↓e_Mdl_end_4, ↓e_Mdl_end_5, ↓e_Mdl_end_8, ↓e_Mdl_end_11, ↓e_Mdl_end_12, ↓e_Mdl_end_13, ↓e_Mdl_end_16, ↓e_Mdl_end_19, ↓e_Mdl_end_20, ↓e_Mdl_end_21, ↓e_Mdl_end_24, ↓e_Mdl_end_25, ↓e_Mdl_end_28, ↓e_Mdl_end_29, ↓e_Mdl_end_32, ↓e_Mdl_end_35, ↓e_Mdl_end_38, ↓e_Mdl_end_39, ↓e_Mdl_end_42, ↓e_Mdl_end_45, ↓e_Mdl_end_46, ↓e_Mdl_end_47, ↓e_Mdl_end_48, ↓e_Mdl_end_51, ↓e_Mdl_end_54, ↓e_Mdl_end_57, ↓e_Mdl_end_58, ↓e_Mdl_end_61, ↓e_Mdl_end_62, ↓e_Mdl_end_63, ↓e_Mdl_end_64, ↓e_Mdl_end_65, ↓e_Mdl_end_68, ↓e_Mdl_end_69, ↓e_Mdl_end_72, ↓e_Mdl_end_73, ↓e_Mdl_end_76, ↓e_Mdl_end_77, ↓e_Mdl_end_80, ↓e_Mdl_end_81, ↓e_Mdl_end_82, ↓e_Mdl_end_83, ↓e_Mdl_end_86, ↓e_Mdl_end_87, ↓e_Mdl_end_88, ↓e_Mdl_end_89, ↓e_Mdl_end_92, ↓e_Mdl_end_93, ↓e_Mdl_end_94, ↓e_Mdl_end_97, ↓e_Mdl_end_98, ↓e_Mdl_end_101, ↓e_Mdl_end_102, ↓e_Mdl_end_105, ↓e_Mdl_end_106, ↓e_Mdl_end_107, ↓e_Mdl_end_110, ↓e_Mdl_end_111, ↓e_Mdl_end_112, ↓e_Mdl_end_113, ↓e_Mdl_end_116, ↓e_Mdl_end_119, ↓e_Mdl_end_120, ↓e_Mdl_end_123, ↓e_Mdl_end_124, ↓e_Mdl_end_125, ↓e_Mdl_end_126, ↓e_Mdl_end_129, ↓e_Mdl_end_130, ↓e_Mdl_end_131, ↓e_Mdl_end_132, ↓e_Mdl_end_135, ↓e_Mdl_end_138, ↓e_Mdl_end_139, ↓e_Mdl_end_140, ↓e_Mdl_end_143, ↓e_Mdl_end_144, ↓e_Mdl_end_147, ↓e_Mdl_end_148, ↓e_Mdl_end_151, ↓e_Mdl_end_152, ↓e_Mdl_end_153, ↓e_Mdl_end_156, ↓e_Mdl_end_157, ↓e_Mdl_end_158, ↓e_Mdl_end_161, not_true_eq_false, not_false_eq_true, one0, true_or, or_true, eq_self, bI_z, bI_nz, bI_o, b_ft, bI_1, bI_0, ↓kC_l, ↓kC_r, Option.toList_some, Option.toList_none, List.cons_append, List.nil_append, s1_0, s1_1i, s1_1r, s1_1w, s1_1n, s1_s, s2_0, s2_1i, s2_1r, s2_1w, s2_1n, s2_s, gI_sI, gI_sR, gI_sL, gI_sD, gR_sI, gR_sR, gR_sL, gR_sD, gL_sI, gL_sR, gL_sL, gL_sD, gD_sI, gD_sR, gD_sL, gD_sD, isK_sI, isK_sR, isK_sL, isK_sD, inL_sI, inL_sR, inL_sL, inL_sD, nx_sI, nx_sR, nx_sL, nx_sD, kd_sI, kd_sR, kd_sL, kd_sD, ln_sI, ln_sR, ln_sL, ln_sD, ↓reduceIte, c8_n, c8_1, c8_2, c8_3, c8_4, Nat.reduceAdd, R.nk hi, R.nz hi, hg, Rg.nk hi, M1.2.2.1.1, L.kd, u1, R1.nk hi, Nat.reduceEqDiff, and_false, and_self]
  | false =>
    rw [if_neg (by decide)]
    have e6 : gI g (p i) 6 = β.1 i 6 := Vg.f hi 6 (by omega) (by omega)
    have e3 : gI g (p i) 3 = β.1 i 3 := Vg.f hi 3 (by omega) (by omega)
    generalize ht : sI g (p i) 6 (gI g (p i) 6 + 1) = t
    have Rt : RM τ n p A c B K t := by rw [← ht]; exact Rg.fld (f := 6) hi (by omega) _
    have Vt : RA τ n p c B t (asV β i 6 (β.1 i 6 + 1)) := by rw [← ht, e6]; exact Vg.set (f := 6) Rg hi hn _ (fun w => by omega)
    have Gt : Ag τ (Sdr i) h t := by rw [← ht]; exact Gd.sI (by rw [tp]; unfold Sdr; omega)
    have t7 : ¬ 0 < gI t (p i) 7 := by
      rw [← ht]
      simp only [gI_sI, Nat.reduceEqDiff, and_false, ↓reduceIte]
      exact hlg
    have t6 : gI t (p i) 6 = gI g (p i) 6 + 1 := by rw [← ht, gI_sI, if_pos ⟨rfl, rfl⟩]
    have t3 : gI t (p i) 3 = gI g (p i) 3 := by rw [← ht, gI_sI, if_neg (fun w => by have := w.2; omega)]
    have nt : nx t = nx h := by rw [← ht]; exact ng
    have st : sc t = sc h := by rw [← ht]; exact sg
    have Xt : Ext τ h τ t := Xg.trans (by rw [← ht]; exact Ext.refl τ g)
    unfold try9
    by_cases h5 : gI g (p i) 6 + 1 = 5
    · rw [if_pos (by rw [← e6]; exact h5)]
      obtain ⟨u, u1, R2, V2, X2, G2, n2, s2⟩ := qx_drop Rt Vt hi t7 hqg
      have ht' : sI g (p i) 6 5 = t := by rw [← h5]; exact ht
      refine ⟨u, fun Q => ?_, R2, V2, Xt.trans X2, Gt.trans F Xt (Or.inl rfl) G2, by omega, by omega⟩
      simp only [↓e_Mdl_end_0, ↓e_Mdl_end_1, ↓e_Mdl_end_4, ↓e_Mdl_end_5, ↓e_Mdl_end_8, ↓e_Mdl_end_11, ↓e_Mdl_end_12, ↓e_Mdl_end_13, ↓e_Mdl_end_16, ↓e_Mdl_end_19, ↓e_Mdl_end_20, ↓e_Mdl_end_21, ↓e_Mdl_end_24, ↓e_Mdl_end_25, ↓e_Mdl_end_28, ↓e_Mdl_end_29, ↓e_Mdl_end_32, ↓e_Mdl_end_35, ↓e_Mdl_end_38, ↓e_Mdl_end_39, ↓e_Mdl_end_42, ↓e_Mdl_end_45, ↓e_Mdl_end_46, ↓e_Mdl_end_47, ↓e_Mdl_end_48, ↓e_Mdl_end_51, ↓e_Mdl_end_54, ↓e_Mdl_end_57, ↓e_Mdl_end_58, ↓e_Mdl_end_61, ↓e_Mdl_end_62, ↓e_Mdl_end_63, ↓e_Mdl_end_64, ↓e_Mdl_end_65, ↓e_Mdl_end_68, ↓e_Mdl_end_69, ↓e_Mdl_end_72, ↓e_Mdl_end_73, ↓e_Mdl_end_76, ↓e_Mdl_end_77, ↓e_Mdl_end_80, ↓e_Mdl_end_81, ↓e_Mdl_end_82, ↓e_Mdl_end_83, ↓e_Mdl_end_86, ↓e_Mdl_end_87, ↓e_Mdl_end_88, ↓e_Mdl_end_89, ↓e_Mdl_end_92, ↓e_Mdl_end_93, ↓e_Mdl_end_94, ↓e_Mdl_end_97, ↓e_Mdl_end_98, ↓e_Mdl_end_101, ↓e_Mdl_end_102, ↓e_Mdl_end_105, ↓e_Mdl_end_106, ↓e_Mdl_end_107, ↓e_Mdl_end_110, ↓e_Mdl_end_111, ↓e_Mdl_end_112, ↓e_Mdl_end_113, ↓e_Mdl_end_116, ↓e_Mdl_end_119, ↓e_Mdl_end_120, ↓e_Mdl_end_123, ↓e_Mdl_end_124, ↓e_Mdl_end_125, ↓e_Mdl_end_126, ↓e_Mdl_end_129, ↓e_Mdl_end_130, ↓e_Mdl_end_131, ↓e_Mdl_end_132, ↓e_Mdl_end_135, ↓e_Mdl_end_138, ↓e_Mdl_end_139, ↓e_Mdl_end_140, ↓e_Mdl_end_143, ↓e_Mdl_end_144, ↓e_Mdl_end_147, ↓e_Mdl_end_148, ↓e_Mdl_end_151, ↓e_Mdl_end_152, ↓e_Mdl_end_153, ↓e_Mdl_end_156, ↓e_Mdl_end_157, ↓e_Mdl_end_158, ↓e_Mdl_end_161, not_true_eq_false, not_false_eq_true, one0, true_or, or_true, eq_self, bI_z, bI_nz, bI_o, b_ft, bI_1, bI_0, ↓kC_l, ↓kC_r, Option.toList_some, Option.toList_none, List.cons_append, List.nil_append, s1_0, s1_1i, s1_1r, s1_1w, s1_1n, s1_s, s2_0, s2_1i, s2_1r, s2_1w, s2_1n, s2_s, gI_sI, gI_sR, gI_sL, gI_sD, gR_sI, gR_sR, gR_sL, gR_sD, gL_sI, gL_sR, gL_sL, gL_sD, gD_sI, gD_sR, gD_sL, gD_sD, isK_sI, isK_sR, isK_sL, isK_sD, inL_sI, inL_sR, inL_sL, inL_sD, nx_sI, nx_sR, nx_sL, nx_sD, kd_sI, kd_sR, kd_sL, kd_sD, ln_sI, ln_sR, ln_sL, ln_sD, ↓reduceIte, c8_n, c8_1, c8_2, c8_3, c8_4, Nat.reduceAdd, R.nk hi, R.nz hi, hg, Rg.nk hi, ht, ht', Rt.nk hi, t6, h5, Rt.k, u1, Nat.reduceEqDiff, and_false, and_self]
    · rw [if_neg (by rw [← e6]; exact h5)]
      have fin : ∀ (g2 : Hp) (v : Int32) (γ : As), RM τ n p A c B K g2 → RA τ n p c B g2 γ → Ext τ h τ g2 → Ag τ (Sdr i) h g2 → nx g2 = nx h → sc g2 = sc h → (∀ Q, WP Gm j_Mdl_end 63 [some (.inr (.inl (some 121))), some (.inl (ii i)), some (.inr (.inl (some (p i)))), some (.inl (bI false))] [] h Q = WP Gm j_Mdl_end 135 [some (.inr (.inl (some 121))), some (.inl (ii i)), some (.inr (.inl (some (p i)))), some (.inl (bI false))] [.inl v, .inr (.inl (some (p i)))] g2 Q) →
          ∃ h', (∀ Q, WP Gm j_Mdl_end 63 [some (.inr (.inl (some 121))), some (.inl (ii i)), some (.inr (.inl (some (p i)))), some (.inl (bI false))] [] h Q = Q (.inl none) h') ∧ RM τ n p A c B K h' ∧ RA τ n p c B h' (wai9 γ i v) ∧ Ext τ h τ h' ∧ Ag τ (Sdr i) h h' ∧ nx h' = nx h ∧ sc h' = sc h := fun g2 v γ R2 V2 X2 G2 n2 s2 e => by
        obtain ⟨R3, V3⟩ := wai_RA R2 V2 hi v
        exact ⟨_, fun Q => (e Q).trans (q_mend135 Q (R2.nk hi) _ _ _), R3, V3, X2.trans (Ext.refl τ g2), ((G2.sI (by rw [tp]; unfold Sdr; omega)).sI (by rw [tp]; unfold Sdr; omega)).sI (by rw [tp]; unfold Sdr; omega), n2, s2⟩
      by_cases h3 : gI t (p i) 3 = 0
      · rw [if_pos (by rw [← e3, ← t3]; exact h3)]
        have ed : dr9 (asV β i 6 (β.1 i 6 + 1)) = dr9 β := dr_congr (asV_n _ _ fun w => by omega)
        have hv := fun Q => qx_draw Rt Vt (1 <<< ((gI g (p i) 6 + 1 + 1) &&& 31)) Q
        rw [ed] at hv
        rw [← e6]
        have Vd : RA τ n p c B (sI t 121 2 (dr9 β)) (asV (asV β i 6 (gI g (p i) 6 + 1)) 50 3 (dr9 β)) := by
          have := Vt.setG (k := 3) Rt hn (by omega) (by omega) (dr9 β)
          rw [← e6] at this
          exact this
        refine fin (sI t 121 2 (dr9 β)) _ _ (Rt.mdl (by omega)) Vd (Xt.trans (Ext.same (fun _ => rfl) (fun _ => rfl) rfl)) (Gt.sI (by rw [R.t1]; unfold Sdr; omega)) nt st fun Q => ?_
        simp only [↓e_Mdl_end_0, ↓e_Mdl_end_1, ↓e_Mdl_end_4, ↓e_Mdl_end_5, ↓e_Mdl_end_8, ↓e_Mdl_end_11, ↓e_Mdl_end_12, ↓e_Mdl_end_13, ↓e_Mdl_end_16, ↓e_Mdl_end_19, ↓e_Mdl_end_20, ↓e_Mdl_end_21, ↓e_Mdl_end_24, ↓e_Mdl_end_25, ↓e_Mdl_end_28, ↓e_Mdl_end_29, ↓e_Mdl_end_32, ↓e_Mdl_end_35, ↓e_Mdl_end_38, ↓e_Mdl_end_39, ↓e_Mdl_end_42, ↓e_Mdl_end_45, ↓e_Mdl_end_46, ↓e_Mdl_end_47, ↓e_Mdl_end_48, ↓e_Mdl_end_51, ↓e_Mdl_end_54, ↓e_Mdl_end_57, ↓e_Mdl_end_58, ↓e_Mdl_end_61, ↓e_Mdl_end_62, ↓e_Mdl_end_63, ↓e_Mdl_end_64, ↓e_Mdl_end_65, ↓e_Mdl_end_68, ↓e_Mdl_end_69, ↓e_Mdl_end_72, ↓e_Mdl_end_73, ↓e_Mdl_end_76, ↓e_Mdl_end_77, ↓e_Mdl_end_80, ↓e_Mdl_end_81, ↓e_Mdl_end_82, ↓e_Mdl_end_83, ↓e_Mdl_end_86, ↓e_Mdl_end_87, ↓e_Mdl_end_88, ↓e_Mdl_end_89, ↓e_Mdl_end_92, ↓e_Mdl_end_93, ↓e_Mdl_end_94, ↓e_Mdl_end_97, ↓e_Mdl_end_98, ↓e_Mdl_end_101, ↓e_Mdl_end_102, ↓e_Mdl_end_105, ↓e_Mdl_end_106, ↓e_Mdl_end_107, ↓e_Mdl_end_110, ↓e_Mdl_end_111, ↓e_Mdl_end_112, ↓e_Mdl_end_113, ↓e_Mdl_end_116, ↓e_Mdl_end_119, ↓e_Mdl_end_120, ↓e_Mdl_end_123, ↓e_Mdl_end_124, ↓e_Mdl_end_125, ↓e_Mdl_end_126, ↓e_Mdl_end_129, ↓e_Mdl_end_130, ↓e_Mdl_end_131, ↓e_Mdl_end_132, ↓e_Mdl_end_138, ↓e_Mdl_end_139, ↓e_Mdl_end_140, ↓e_Mdl_end_143, ↓e_Mdl_end_144, ↓e_Mdl_end_147, ↓e_Mdl_end_148, ↓e_Mdl_end_151, ↓e_Mdl_end_152, ↓e_Mdl_end_153, ↓e_Mdl_end_156, ↓e_Mdl_end_157, ↓e_Mdl_end_158, ↓e_Mdl_end_161, not_true_eq_false, not_false_eq_true, one0, true_or, or_true, eq_self, bI_z, bI_nz, bI_o, b_ft, bI_1, bI_0, ↓kC_l, ↓kC_r, Option.toList_some, Option.toList_none, List.cons_append, List.nil_append, s1_0, s1_1i, s1_1r, s1_1w, s1_1n, s1_s, s2_0, s2_1i, s2_1r, s2_1w, s2_1n, s2_s, gI_sI, gI_sR, gI_sL, gI_sD, gR_sI, gR_sR, gR_sL, gR_sD, gL_sI, gL_sR, gL_sL, gL_sD, gD_sI, gD_sR, gD_sL, gD_sD, isK_sI, isK_sR, isK_sL, isK_sD, inL_sI, inL_sR, inL_sL, inL_sD, nx_sI, nx_sR, nx_sL, nx_sD, kd_sI, kd_sR, kd_sL, kd_sD, ln_sI, ln_sR, ln_sL, ln_sD, ↓reduceIte, c8_n, c8_1, c8_2, c8_3, c8_4, Nat.reduceAdd, R.nk hi, R.nz hi, hg, Rg.nk hi, ht, Rt.nk hi, t6, h5, h3, Rt.k, hv, Nat.reduceEqDiff, and_false, and_self]
      · rw [if_neg (by rw [← e3, ← t3]; exact h3)]
        refine fin t 0 _ Rt Vt Xt Gt nt st fun Q => ?_
        simp only [↓e_Mdl_end_0, ↓e_Mdl_end_1, ↓e_Mdl_end_4, ↓e_Mdl_end_5, ↓e_Mdl_end_8, ↓e_Mdl_end_11, ↓e_Mdl_end_12, ↓e_Mdl_end_13, ↓e_Mdl_end_16, ↓e_Mdl_end_19, ↓e_Mdl_end_20, ↓e_Mdl_end_21, ↓e_Mdl_end_24, ↓e_Mdl_end_25, ↓e_Mdl_end_28, ↓e_Mdl_end_29, ↓e_Mdl_end_32, ↓e_Mdl_end_35, ↓e_Mdl_end_38, ↓e_Mdl_end_39, ↓e_Mdl_end_42, ↓e_Mdl_end_45, ↓e_Mdl_end_46, ↓e_Mdl_end_47, ↓e_Mdl_end_48, ↓e_Mdl_end_51, ↓e_Mdl_end_54, ↓e_Mdl_end_57, ↓e_Mdl_end_58, ↓e_Mdl_end_61, ↓e_Mdl_end_62, ↓e_Mdl_end_63, ↓e_Mdl_end_64, ↓e_Mdl_end_65, ↓e_Mdl_end_68, ↓e_Mdl_end_69, ↓e_Mdl_end_72, ↓e_Mdl_end_73, ↓e_Mdl_end_76, ↓e_Mdl_end_77, ↓e_Mdl_end_80, ↓e_Mdl_end_81, ↓e_Mdl_end_82, ↓e_Mdl_end_83, ↓e_Mdl_end_86, ↓e_Mdl_end_87, ↓e_Mdl_end_88, ↓e_Mdl_end_89, ↓e_Mdl_end_92, ↓e_Mdl_end_93, ↓e_Mdl_end_94, ↓e_Mdl_end_97, ↓e_Mdl_end_98, ↓e_Mdl_end_101, ↓e_Mdl_end_102, ↓e_Mdl_end_105, ↓e_Mdl_end_106, ↓e_Mdl_end_107, ↓e_Mdl_end_110, ↓e_Mdl_end_111, ↓e_Mdl_end_112, ↓e_Mdl_end_113, ↓e_Mdl_end_116, ↓e_Mdl_end_119, ↓e_Mdl_end_120, ↓e_Mdl_end_123, ↓e_Mdl_end_124, ↓e_Mdl_end_125, ↓e_Mdl_end_126, ↓e_Mdl_end_129, ↓e_Mdl_end_130, ↓e_Mdl_end_131, ↓e_Mdl_end_132, ↓e_Mdl_end_138, ↓e_Mdl_end_139, ↓e_Mdl_end_140, ↓e_Mdl_end_143, ↓e_Mdl_end_144, ↓e_Mdl_end_147, ↓e_Mdl_end_148, ↓e_Mdl_end_151, ↓e_Mdl_end_152, ↓e_Mdl_end_153, ↓e_Mdl_end_156, ↓e_Mdl_end_157, ↓e_Mdl_end_158, ↓e_Mdl_end_161, not_true_eq_false, not_false_eq_true, one0, true_or, or_true, eq_self, bI_z, bI_nz, bI_o, b_ft, bI_1, bI_0, ↓kC_l, ↓kC_r, Option.toList_some, Option.toList_none, List.cons_append, List.nil_append, s1_0, s1_1i, s1_1r, s1_1w, s1_1n, s1_s, s2_0, s2_1i, s2_1r, s2_1w, s2_1n, s2_s, gI_sI, gI_sR, gI_sL, gI_sD, gR_sI, gR_sR, gR_sL, gR_sD, gL_sI, gL_sR, gL_sL, gL_sD, gD_sI, gD_sR, gD_sL, gD_sD, isK_sI, isK_sR, isK_sL, isK_sD, inL_sI, inL_sR, inL_sL, inL_sD, nx_sI, nx_sR, nx_sL, nx_sD, kd_sI, kd_sR, kd_sL, kd_sD, ln_sI, ln_sR, ln_sL, ln_sD, ↓reduceIte, c8_n, c8_1, c8_2, c8_3, c8_4, Nat.reduceAdd, R.nk hi, R.nz hi, hg, Rg.nk hi, ht, Rt.nk hi, t6, h5, h3, Rt.k, Nat.reduceEqDiff, and_false, and_self]
theorem qx_end {i x : Nat} (R : RM τ n p A c B K h) (V : RA τ n p c B h α) (hi : i < n) (hl : ¬ 0 < gI h (p i) 7) (hx : x < n) (h8 : α.1 i 8 = ii x) (hq : ¬ α.2.1 i = 0) (hq4 : α.2.1 x ≤ 4) (hv : FV9 n (α.2.2.1 i 0)) (hA : A ≤ 16000) (hn1 : nx h + 20 ≤ 580300) (hs1 : sc h + 100100 ≤ 5700000) :
    ∃ τ' A' c' h', (∀ Q, WP Gm j_Mdl_end 0 [some (.inr (.inl (some 121))), some (.inl (ii i)), none, none] [] h Q = Q (.inl none) h') ∧ RM τ' n p A' c' B K h' ∧ RA τ' n p c' B h' (end9 α i) ∧ A' ≤ A + 1 ∧ Ext τ h τ' h' ∧ Ag τ (Sen i) h h' ∧ nx h' ≤ nx h + 4 ∧ sc h' + 4 * c ≤ sc h + 80 + 4 * c' := by
  have hn := R.n8
  have F := R.F
  have tp := R.nt hi
  obtain ⟨N1, -, ⟨k, c0, k1, c1, L⟩, -⟩ := R.nd hi
  have e9 : gI h (p i) 9 = α.1 i 9 := V.f hi 9 (by omega) (by omega)
  have e8 : gI h (p i) 8 = ii x := (V.f hi 8 (by omega) (by omega)).trans h8
  have tx : tn9 (α.1 i 8) = x := by rw [h8]; exact ii_nat (by omega)
  unfold end9
  rw [tx]
  by_cases h9 : α.1 i 9 = 0
  · rw [if_pos h9]
    have h9' : gI h (p i) 9 = 0 := by rw [e9]; exact h9
    obtain ⟨u, u1, R2, V2, X2, G2, n2, s2⟩ := qx_endT R V hi hl hq false
    refine ⟨τ, A, c, u, fun Q => ?_, R2, V2, by omega, X2, G2.mono fun s w => by unfold Sdr at w; unfold Sen; omega, by omega, by omega⟩
    rw [← u1 Q]
    simp only [↓e_Mdl_end_0, ↓e_Mdl_end_1, ↓e_Mdl_end_4, ↓e_Mdl_end_5, ↓e_Mdl_end_8, ↓e_Mdl_end_11, ↓e_Mdl_end_12, ↓e_Mdl_end_13, ↓e_Mdl_end_16, ↓e_Mdl_end_19, ↓e_Mdl_end_20, ↓e_Mdl_end_21, ↓e_Mdl_end_24, ↓e_Mdl_end_25, ↓e_Mdl_end_28, ↓e_Mdl_end_29, ↓e_Mdl_end_32, ↓e_Mdl_end_35, ↓e_Mdl_end_38, ↓e_Mdl_end_39, ↓e_Mdl_end_42, ↓e_Mdl_end_45, ↓e_Mdl_end_46, ↓e_Mdl_end_47, ↓e_Mdl_end_48, ↓e_Mdl_end_51, ↓e_Mdl_end_54, ↓e_Mdl_end_57, ↓e_Mdl_end_58, ↓e_Mdl_end_61, ↓e_Mdl_end_62, ↓e_Mdl_end_64, ↓e_Mdl_end_65, ↓e_Mdl_end_68, ↓e_Mdl_end_69, ↓e_Mdl_end_72, ↓e_Mdl_end_73, ↓e_Mdl_end_76, ↓e_Mdl_end_77, ↓e_Mdl_end_80, ↓e_Mdl_end_81, ↓e_Mdl_end_82, ↓e_Mdl_end_83, ↓e_Mdl_end_86, ↓e_Mdl_end_87, ↓e_Mdl_end_88, ↓e_Mdl_end_89, ↓e_Mdl_end_92, ↓e_Mdl_end_93, ↓e_Mdl_end_94, ↓e_Mdl_end_97, ↓e_Mdl_end_98, ↓e_Mdl_end_101, ↓e_Mdl_end_102, ↓e_Mdl_end_105, ↓e_Mdl_end_106, ↓e_Mdl_end_107, ↓e_Mdl_end_110, ↓e_Mdl_end_111, ↓e_Mdl_end_112, ↓e_Mdl_end_113, ↓e_Mdl_end_116, ↓e_Mdl_end_119, ↓e_Mdl_end_120, ↓e_Mdl_end_123, ↓e_Mdl_end_124, ↓e_Mdl_end_125, ↓e_Mdl_end_126, ↓e_Mdl_end_129, ↓e_Mdl_end_130, ↓e_Mdl_end_131, ↓e_Mdl_end_132, ↓e_Mdl_end_135, ↓e_Mdl_end_138, ↓e_Mdl_end_139, ↓e_Mdl_end_140, ↓e_Mdl_end_143, ↓e_Mdl_end_144, ↓e_Mdl_end_147, ↓e_Mdl_end_148, ↓e_Mdl_end_151, ↓e_Mdl_end_152, ↓e_Mdl_end_153, ↓e_Mdl_end_156, ↓e_Mdl_end_157, ↓e_Mdl_end_158, ↓e_Mdl_end_161, not_true_eq_false, not_false_eq_true, one0, true_or, or_true, eq_self, bI_z, bI_nz, bI_o, b_ft, bI_1, bI_0, ↓kC_l, ↓kC_r, Option.toList_some, Option.toList_none, List.cons_append, List.nil_append, s1_0, s1_1i, s1_1r, s1_1w, s1_1n, s1_s, s2_0, s2_1i, s2_1r, s2_1w, s2_1n, s2_s, gI_sI, gI_sR, gI_sL, gI_sD, gR_sI, gR_sR, gR_sL, gR_sD, gL_sI, gL_sR, gL_sL, gL_sD, gD_sI, gD_sR, gD_sL, gD_sD, isK_sI, isK_sR, isK_sL, isK_sD, inL_sI, inL_sR, inL_sL, inL_sD, nx_sI, nx_sR, nx_sL, nx_sD, kd_sI, kd_sR, kd_sL, kd_sD, ln_sI, ln_sR, ln_sL, ln_sD, ↓reduceIte, c8_n, c8_1, c8_2, c8_3, c8_4, Nat.reduceAdd, R.k, R.r9, R.k122, q_ng _ R hi, R.nk hi, R.nz hi, h9', bI_0]
  · rw [if_neg h9]
    have h9' : ¬ gI h (p i) 9 = 0 := by rw [e9]; exact h9
    obtain ⟨f, f1, f3, fv, f4⟩ := pop_q V hi (by omega)
    obtain ⟨a1, a2, -⟩ := R.fr f3
    have fz := k_int R.F a1 (by omega)
    obtain ⟨τ1, A1, c1', g, g1, R1, V1, A2, X1, G1, n1, s1⟩ := qx_recv R V hx f3 fv hv hq4 hA hn1 hs1
    have eN : ∀ j, gI g (p i) j = gI h (p i) j := fun j => (G1 _ (by rw [tp]; unfold Src; omega) j).1
    have hq1 : ¬ (rcv9 α x (α.2.2.1 i 0)).2.1 i = 0 := by
      have := rcv_q α x i (α.2.2.1 i 0)
      omega
    have eh : mhear g p i x = hr9 α i x := (V1.hr hi hx).trans (hr_congr fun a k ha hk => rcv_V _ _ _ (by omega))
    obtain ⟨u, u1, R2, V2, X2, G2, n2, s2⟩ := qx_endT R1 V1 hi (by rw [eN]; exact hl) hq1 (hr9 α i x)
    have G1' : Ag τ (Sen i) h g := G1.mono fun s w => by unfold Src at w; unfold Sen; omega
    refine ⟨τ1, A1, c1', u, fun Q => ?_, R2, V2, A2, X1.trans X2, G1'.trans F X1 (Or.inl rfl) (G2.mono fun s w => by unfold Sdr at w; unfold Sen; omega), by omega, by omega⟩
    rw [← u1 Q]
    simp only [↓e_Mdl_end_0, ↓e_Mdl_end_1, ↓e_Mdl_end_4, ↓e_Mdl_end_5, ↓e_Mdl_end_8, ↓e_Mdl_end_11, ↓e_Mdl_end_12, ↓e_Mdl_end_13, ↓e_Mdl_end_16, ↓e_Mdl_end_19, ↓e_Mdl_end_20, ↓e_Mdl_end_21, ↓e_Mdl_end_24, ↓e_Mdl_end_25, ↓e_Mdl_end_28, ↓e_Mdl_end_29, ↓e_Mdl_end_32, ↓e_Mdl_end_35, ↓e_Mdl_end_38, ↓e_Mdl_end_39, ↓e_Mdl_end_42, ↓e_Mdl_end_45, ↓e_Mdl_end_46, ↓e_Mdl_end_47, ↓e_Mdl_end_48, ↓e_Mdl_end_51, ↓e_Mdl_end_54, ↓e_Mdl_end_57, ↓e_Mdl_end_58, ↓e_Mdl_end_61, ↓e_Mdl_end_62, ↓e_Mdl_end_64, ↓e_Mdl_end_65, ↓e_Mdl_end_68, ↓e_Mdl_end_69, ↓e_Mdl_end_72, ↓e_Mdl_end_73, ↓e_Mdl_end_76, ↓e_Mdl_end_77, ↓e_Mdl_end_80, ↓e_Mdl_end_81, ↓e_Mdl_end_82, ↓e_Mdl_end_83, ↓e_Mdl_end_86, ↓e_Mdl_end_87, ↓e_Mdl_end_88, ↓e_Mdl_end_89, ↓e_Mdl_end_92, ↓e_Mdl_end_93, ↓e_Mdl_end_94, ↓e_Mdl_end_97, ↓e_Mdl_end_98, ↓e_Mdl_end_101, ↓e_Mdl_end_102, ↓e_Mdl_end_105, ↓e_Mdl_end_106, ↓e_Mdl_end_107, ↓e_Mdl_end_110, ↓e_Mdl_end_111, ↓e_Mdl_end_112, ↓e_Mdl_end_113, ↓e_Mdl_end_116, ↓e_Mdl_end_119, ↓e_Mdl_end_120, ↓e_Mdl_end_123, ↓e_Mdl_end_124, ↓e_Mdl_end_125, ↓e_Mdl_end_126, ↓e_Mdl_end_129, ↓e_Mdl_end_130, ↓e_Mdl_end_131, ↓e_Mdl_end_132, ↓e_Mdl_end_135, ↓e_Mdl_end_138, ↓e_Mdl_end_139, ↓e_Mdl_end_140, ↓e_Mdl_end_143, ↓e_Mdl_end_144, ↓e_Mdl_end_147, ↓e_Mdl_end_148, ↓e_Mdl_end_151, ↓e_Mdl_end_152, ↓e_Mdl_end_153, ↓e_Mdl_end_156, ↓e_Mdl_end_157, ↓e_Mdl_end_158, ↓e_Mdl_end_161, not_true_eq_false, not_false_eq_true, one0, true_or, or_true, eq_self, bI_z, bI_nz, bI_o, b_ft, bI_1, bI_0, ↓kC_l, ↓kC_r, Option.toList_some, Option.toList_none, List.cons_append, List.nil_append, s1_0, s1_1i, s1_1r, s1_1w, s1_1n, s1_s, s2_0, s2_1i, s2_1r, s2_1w, s2_1n, s2_s, gI_sI, gI_sR, gI_sL, gI_sD, gR_sI, gR_sR, gR_sL, gR_sD, gL_sI, gL_sR, gL_sL, gL_sD, gD_sI, gD_sR, gD_sL, gD_sD, isK_sI, isK_sR, isK_sL, isK_sD, inL_sI, inL_sR, inL_sL, inL_sD, nx_sI, nx_sR, nx_sL, nx_sD, kd_sI, kd_sR, kd_sL, kd_sD, ln_sI, ln_sR, ln_sL, ln_sD, ↓reduceIte, c8_n, c8_1, c8_2, c8_3, c8_4, Nat.reduceAdd, R.k, R.r9, R.k122, q_ng _ R hi, R.nk hi, R.nz hi, h9', e8, N1.2.2.1.1, L.kd, f4, a1, fz, g1, R1.nk hi, eN, R1.k, q_hrs _ R1 hi hx, eh]
    cases hr9 α i x <;> rfl
end REN
