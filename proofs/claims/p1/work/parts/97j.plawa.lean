/-! plawa: the law's start: the two sides are made; what a call of the country leaves of the reference -/
section LWA
variable {τ τ' : Nat → Nat} {n A c B m T : Nat} {K : Int32} {p : Nat → Nat} {h h' h2 : Hp}
theorem q_countryInit4 (hk : kd h 1 = kc_S) (hn : nx h = 2) (hs : sc h ≤ 100) : ∃ h', (∀ Q, WP Gm j_S_init 0 [some (.inr (.inl (some 1)))] [] h Q = Q (.inl none) h') ∧ Sm (fun b => b = 0) h h' ∧ Km 4000 h h' ∧ nx h' = 121 ∧ CI 0 h' ∧ FN 0 h' ∧ gI h' 114 2 = ii 0 ∧ gI h' 1 4 = 0 ∧ MkD h' := by
  generalize hh1 : hN h kc_Land 0 3 = h1
  have n1 : nx h1 = 3 := by rw [← hh1, nx_hN, hn]
  have S1 : Sm (fun b => b < 2) h h1 := by rw [← hh1]; exact (Sm.refl h).hN _ _ _ (by omega)
  have K1 : Km 3 h h1 := by rw [← hh1]; exact (Km.refl h).hN _ _ _
  have c1 := K1.2.2
  have kd1 : kd h1 2 = kc_Land := by rw [← hh1, kd_hN, if_pos hn.symm]
  obtain ⟨h2, e2, S2, K2, n2, L2⟩ := q_landInit kd1 n1 (by omega)
  have c2 := K2.2.2
  generalize hh3 : sR h2 1 0 (some 2) = h3
  have n3 : nx h3 = 77 := by rw [← hh3]; exact n2
  have kd3 : ∀ b, kd h3 b = kd h2 b ∧ ln h3 b = ln h2 b := fun b => by rw [← hh3]; exact ⟨rfl, rfl⟩
  have S3 : Sm (fun b => b ≠ 1) h2 h3 := by rw [← hh3]; exact (Sm.refl h2).sR _ _ (by simp)
  have c3 : sc h3 = sc h2 := by rw [← hh3]; rfl
  generalize hh4 : hN h3 kc_Routes 0 6 = h4
  have n4 : nx h4 = 78 := by rw [← hh4, nx_hN, n3]
  have S4 : Sm (fun b => b < 77) h3 h4 := by rw [← hh4]; exact (Sm.refl h3).hN _ _ _ (by omega)
  have K4 : Km 6 h3 h4 := by rw [← hh4]; exact ((Km.refl h3).hN _ _ _).le (by omega)
  have c4 := K4.2.2
  have kd4 : kd h4 77 = kc_Routes := by rw [← hh4, kd_hN, if_pos n3.symm]
  obtain ⟨h5, e5, S5, K5, n5, R5⟩ := q_routesInit kd4 n4 (by omega)
  have c5 := K5.2.2
  generalize hh6 : sR h5 1 1 (some 77) = h6
  have n6 : nx h6 = 114 := by rw [← hh6]; exact n5
  have kd6 : ∀ b, kd h6 b = kd h5 b ∧ ln h6 b = ln h5 b := fun b => by rw [← hh6]; exact ⟨rfl, rfl⟩
  have S6 : Sm (fun b => b ≠ 1) h5 h6 := by rw [← hh6]; exact (Sm.refl h5).sR _ _ (by simp)
  have c6 : sc h6 = sc h5 := by rw [← hh6]; rfl
  generalize hh7 : hN h6 kc_Traffic 0 7 = h7
  have n7 : nx h7 = 115 := by rw [← hh7, nx_hN, n6]
  have S7 : Sm (fun b => b < 114) h6 h7 := by rw [← hh7]; exact (Sm.refl h6).hN _ _ _ (by omega)
  have K7 : Km 7 h6 h7 := by rw [← hh7]; exact ((Km.refl h6).hN _ _ _).le (by omega)
  have c7 := K7.2.2
  have kd7 : kd h7 114 = kc_Traffic := by rw [← hh7, kd_hN, if_pos n6.symm]
  obtain ⟨h8, e8, F8, t1, t2, t3, t4, t5⟩ := q_trafficInit (h := h7) (isK_of (by omega) kd7)
  have n8' : nx h8 = 115 := by rw [F8.2.2.2.2.2.1]; exact n7
  have kd8 : ∀ b, kd h8 b = kd h7 b ∧ ln h8 b = ln h7 b := fun b => ⟨F8.2.2.2.1 b, F8.2.2.2.2.1 b⟩
  have S8 : Sm (fun b => b ≠ 114) h7 h8 := (Sm.refl h7).fr F8 (fun b k q w => q w) (fun b k q w => q w) (fun _ _ _ w => w)
  have c8' : sc h8 = sc h7 := F8.2.2.2.2.2.2
  have T8 : TrD h8 := ⟨by rw [(kd8 114).1]; exact kd7, t1, t2, t3, t4, t5⟩
  generalize hh9 : sR h8 1 2 (some 114) = h9
  have n9 : nx h9 = 115 := by rw [← hh9]; exact n8'
  have kd9 : ∀ b, kd h9 b = kd h8 b ∧ ln h9 b = ln h8 b := fun b => by rw [← hh9]; exact ⟨rfl, rfl⟩
  have S9 : Sm (fun b => b ≠ 1) h8 h9 := by rw [← hh9]; exact (Sm.refl h8).sR _ _ (by simp)
  have c9 : sc h9 = sc h8 := by rw [← hh9]; rfl
  generalize hh10 : hN h9 kc_Market 0 9 = h10
  have n10 : nx h10 = 116 := by rw [← hh10, nx_hN, n9]
  have S10 : Sm (fun b => b < 115) h9 h10 := by rw [← hh10]; exact (Sm.refl h9).hN _ _ _ (by omega)
  have K10 : Km 9 h9 h10 := by rw [← hh10]; exact ((Km.refl h9).hN _ _ _).le (by omega)
  have c10 := K10.2.2
  have kd10 : kd h10 115 = kc_Market := by rw [← hh10, kd_hN, if_pos n9.symm]
  obtain ⟨h11, e11, S11, K11, n11, M11⟩ := q_marketInit kd10 n10 (by omega)
  have c11 := K11.2.2
  generalize hh12 : sI (sR h11 1 3 (some 115)) 1 4 0 = h12
  have n12 : nx h12 = 121 := by rw [← hh12]; exact n11
  have kd12 : ∀ b, kd h12 b = kd h11 b ∧ ln h12 b = ln h11 b := fun b => by rw [← hh12]; exact ⟨rfl, rfl⟩
  have S12 : Sm (fun b => b ≠ 1) h11 h12 := by rw [← hh12]; exact ((Sm.refl h11).sR _ _ (by simp)).sI _ _ (by simp)
  have c12 : sc h12 = sc h11 := by rw [← hh12]; rfl
  have k23 : ∀ b, b < 77 → kd h4 b = kd h2 b ∧ ln h4 b = ln h2 b := fun b hb => by rw [(K4.1 b (by omega)).1, (K4.1 b (by omega)).2]; exact kd3 b
  have k25 : ∀ b, b < 77 → kd h5 b = kd h2 b ∧ ln h5 b = ln h2 b := fun b hb => by rw [(K5.1 b (by omega)).1, (K5.1 b (by omega)).2]; exact k23 b hb
  have k57 : ∀ b, b < 114 → kd h8 b = kd h5 b ∧ ln h8 b = ln h5 b := fun b hb => by rw [(kd8 b).1, (kd8 b).2, (K7.1 b (by omega)).1, (K7.1 b (by omega)).2]; exact kd6 b
  have k8e : ∀ b, b < 115 → kd h12 b = kd h8 b ∧ ln h12 b = ln h8 b := fun b hb => by rw [(kd12 b).1, (kd12 b).2, (K11.1 b (by omega)).1, (K11.1 b (by omega)).2, (K10.1 b (by omega)).1, (K10.1 b (by omega)).2]; exact kd9 b
  have k01 : kd h2 1 = kc_S := by rw [(K2.1 1 (by omega)).1, (K1.1 1 (by omega)).1]; exact hk
  have y25 : Sm (fun b => b < 77 ∧ b ≠ 1) h2 h5 := ((S3.mono fun b q => q.2).trans (S4.mono fun b q => q.1)).trans (S5.mono fun b q => q.1)
  have y58 : Sm (fun b => b < 114 ∧ b ≠ 1) h5 h8 := ((S6.mono fun b q => q.2).trans (S7.mono fun b q => q.1)).trans (S8.mono fun b q => by omega)
  have y8e : Sm (fun b => b < 115 ∧ b ≠ 1) h8 h12 := (((S9.mono fun b q => q.2).trans (S10.mono fun b q => q.1)).trans (S11.mono fun b q => q.1)).trans (S12.mono fun b q => q.2)
  have L : LD 8 h12 := L2.keep (((y25.mono fun b q => by omega).trans (y58.mono fun b q => by omega)).trans (y8e.mono fun b q => by omega)) (fun b p q => by rw [(k8e b (by omega)).1, (k8e b (by omega)).2, (k57 b (by omega)).1, (k57 b (by omega)).2]; exact k25 b q)
  have R : RD h12 := R5.keep ((y58.mono fun b q => by omega).trans (y8e.mono fun b q => by omega)) (fun b p q => by rw [(k8e b (by omega)).1, (k8e b (by omega)).2]; exact k57 b q)
  have T : TrD h12 := T8.keep (y8e.mono fun b q => by omega) (k8e 114 (by omega)).1
  have M : MkD h12 := M11.keep (S12.mono fun b q => by omega) (fun b p q => kd12 b)
  have r3 : gR h3 1 0 = some 2 := by rw [← hh3, gR_sR, if_pos ⟨rfl, rfl⟩]
  have r4 : gR h4 1 0 = some 2 := by rw [(S4 1 0 (by omega)).2.1]; exact r3
  have r6 : gR h6 1 0 = some 2 := by rw [← hh6, gR_sR, if_neg (by omega), (S5 1 0 (by omega)).2.1]; exact r4
  have r61 : gR h6 1 1 = some 77 := by rw [← hh6, gR_sR, if_pos ⟨rfl, rfl⟩]
  have e68 : ∀ k, gR h8 1 k = gR h6 1 k := fun k => by rw [(S8 1 k (by omega)).2.1, (S7 1 k (by omega)).2.1]
  have e9e : ∀ k, k ≠ 3 → gR h12 1 k = gR h9 1 k := fun k hk3 => by rw [← hh12, gR_sI, gR_sR, if_neg (by omega), (S11 1 k (by omega)).2.1, (S10 1 k (by omega)).2.1]
  have r9 : ∀ k, k ≠ 2 → gR h9 1 k = gR h6 1 k := fun k hk2 => by rw [← hh9, gR_sR, if_neg (by omega), e68]
  have C : CoD h12 := by
    refine ⟨?_, ?_, ?_, ?_, ?_⟩
    · rw [(k8e 1 (by omega)).1, (k57 1 (by omega)).1, (k25 1 (by omega)).1]; exact k01
    · rw [e9e 0 (by omega), r9 0 (by omega)]; exact r6
    · rw [e9e 1 (by omega), r9 1 (by omega)]; exact r61
    · rw [e9e 2 (by omega), ← hh9, gR_sR, if_pos ⟨rfl, rfl⟩]
    · rw [← hh12, gR_sI, gR_sR, if_pos ⟨rfl, rfl⟩]
  obtain ⟨z1, z2, z3⟩ := start_of (by omega) C L R T M
  refine ⟨h12, fun Q => ?_, ?_, ?_, n12, z1, z2, z3, by rw [← hh12, gI_sI, if_pos ⟨rfl, rfl⟩], M⟩
  · have o1 : okR cM sM h 1 3 = true := ok_small (by omega) (by omega) (by omega) (by omega)
    have o3 : okR cM sM h3 1 6 = true := ok_small (by omega) (by omega) (by omega) (by omega)
    have o6 : okR cM sM h6 1 7 = true := ok_small (by omega) (by omega) (by omega) (by omega)
    have o9 : okR cM sM h9 1 9 = true := ok_small (by omega) (by omega) (by omega) (by omega)
    have g1 : isK h1 2 kc_Land = true := isK_of (by omega) kd1
    have g2 : isK h2 1 kc_S = true := isK_of (by omega) k01
    have g4 : isK h4 77 kc_Routes = true := isK_of (by omega) kd4
    have g4' : isK h4 1 kc_S = true := isK_of (by omega) (by rw [(k23 1 (by omega)).1]; exact k01)
    have g5 : isK h5 1 kc_S = true := isK_of (by omega) (by rw [(k25 1 (by omega)).1]; exact k01)
    have g7 : isK h7 114 kc_Traffic = true := isK_of (by omega) kd7
    have g7' : isK h7 1 kc_S = true := isK_of (by omega) (by rw [(K7.1 1 (by omega)).1, (kd6 1).1, (k25 1 (by omega)).1]; exact k01)
    have r7 : gR h7 1 0 = some 2 ∧ gR h7 1 1 = some 77 := ⟨by rw [(S7 1 0 (by omega)).2.1]; exact r6, by rw [(S7 1 1 (by omega)).2.1]; exact r61⟩
    have g8 : isK h8 1 kc_S = true := isK_of (by omega) (by rw [(k57 1 (by omega)).1, (k25 1 (by omega)).1]; exact k01)
    have g10 : isK h10 115 kc_Market = true := isK_of (by omega) kd10
    have g11 : isK h11 1 kc_S = true := isK_of (by omega) (by rw [(K11.1 1 (by omega)).1, (K10.1 1 (by omega)).1, (kd9 1).1, (k57 1 (by omega)).1, (k25 1 (by omega)).1]; exact k01)
    simp only [↓e_S_init_0, ↓e_S_init_1, ↓e_S_init_4, ↓e_S_init_5, ↓e_S_init_8, ↓e_S_init_9, ↓e_S_init_12, ↓e_S_init_15, ↓e_S_init_16, ↓e_S_init_19, ↓e_S_init_20, ↓e_S_init_21, ↓e_S_init_24, ↓e_S_init_27, ↓e_S_init_30, ↓e_S_init_31, ↓e_S_init_34, ↓e_S_init_35, ↓e_S_init_36, ↓e_S_init_39, ↓e_S_init_40, ↓e_S_init_43, ↓e_S_init_46, ↓e_S_init_49, ↓e_S_init_50, ↓e_S_init_53, ↓e_S_init_54, ↓e_S_init_57, ↓e_S_init_60, ↓e_S_init_61, ↓e_S_init_62, ↓e_S_init_65, not_true_eq_false, not_false_eq_true, one0, true_or, or_true, eq_self, bI_z, bI_nz, bI_o, b_ft, bI_1, bI_0, ↓kC_l, ↓kC_r, Option.toList_some, Option.toList_none, List.cons_append, List.nil_append, s1_0, s1_1i, s1_1r, s1_1w, s1_1n, s1_s, s2_0, s2_1i, s2_1r, s2_1w, s2_1n, s2_s, gI_sI, gI_sR, gI_sL, gI_sD, gR_sI, gR_sR, gR_sL, gR_sD, gL_sI, gL_sR, gL_sL, gL_sD, gD_sI, gD_sR, gD_sL, gD_sD, isK_sI, isK_sR, isK_sL, isK_sD, inL_sI, inL_sR, inL_sL, inL_sD, nx_sI, nx_sR, nx_sL, nx_sD, kd_sI, kd_sR, kd_sL, kd_sD, ln_sI, ln_sR, ln_sL, ln_sD, ↓reduceIte, c8_n, c8_1, c8_2, c8_3, c8_4, Nat.reduceAdd, o1, hn, hh1, g1, e2, g2, hh3, o3, n3, hh4, g4, g4', r4, e5, g5, hh6, o6, n6, hh7, g7, g7', r7.1, r7.2, e8, g8, hh9, o9, n9, hh10, g10, e11, g11, hh12]
  · exact ((((S1.mono fun b q => by omega).trans (S2.mono fun b q => by omega)).trans (y25.mono fun b q => by omega)).trans (y58.mono fun b q => by omega)).trans (y8e.mono fun b q => by omega)
  · refine ⟨fun b hb => ?_, by omega, by omega⟩
    rw [(k8e b (by omega)).1, (k8e b (by omega)).2, (k57 b (by omega)).1, (k57 b (by omega)).2, (k25 b (by omega)).1, (k25 b (by omega)).2, (K2.1 b (by omega)).1, (K2.1 b (by omega)).2]
    exact K1.1 b hb
theorem RM.f01 (R : RM τ n p A c B K h) (X : Ext τ h τ' h') (F' : Fs τ' h') (G : Ag τ (fun s => s = 0 ∨ s = 1) h h') (e9 : ∀ f, τ' f = 9 → f < nx h) (e10 : ∀ f, τ' f = 10 → f < nx h) (e11 : ∀ f, τ' f = 11 → f < nx h) : RM τ' n p A c B K h' := by
  obtain ⟨F, M, N, D, Fr9, AL1, AE1, BL1, BE1⟩ := R
  refine ⟨F', M.fr F X G (by omega), N.fr F X G (by omega) (by omega), fun j hj => ?_, fun f hf => ?_, AL1.fr F X G (by omega) (by omega), fun f hf => ?_, BL1.fr F X G (by omega) (by omega), fun f hf => ?_⟩
  · obtain ⟨d1, d2, d3, d4, d5⟩ := D j hj
    exact ⟨d1.fr X G (by omega), d2.fr d1 G (by omega), d3.fr d1 X G (by omega) (by omega), d4.fr d1 G (by omega) (by omega), d5.fr d1 G (by omega)⟩
  · have t := (X.1 f (e9 f hf)).1
    have t9 : τ f = 9 := t.symm.trans hf
    exact (Fr9 f t9).fr X G (by omega)
  · have t := (X.1 f (e10 f hf)).1
    exact (AE1 f (t.symm.trans hf)).fr X
  · have t := (X.1 f (e11 f hf)).1
    have t9 : τ f = 11 := t.symm.trans hf
    exact (BE1 f t9).fr X G (by omega)
/-- the invariants do not look at longs -/
theorem RM.noL (R : RM τ n p A c B K h) (g : Nat → Nat → Int64) : RM τ n p A c B K (h.1, h.2.1, g, h.2.2.2) := R
theorem RM.cls {lo : Nat} (R : RM τ n p A c B K h) (C : CCg lo m T h h') (hlo : lo ≤ 121 := by decide) : RM τ n p A c B K h' := by
  obtain ⟨-, -, -, c1, c2, c3, -, -⟩ := C
  have F := R.F
  have X : Ext τ h τ (h'.1, h'.2.1, h.2.2.1, h'.2.2.2) := ⟨fun x hx => ⟨rfl, c2 x hx⟩, c3⟩
  have G : Ag τ (fun s => s = 0 ∨ s = 1) h (h'.1, h'.2.1, h.2.2.1, h'.2.2.2) := fun z hz k => by
    have hlt : z < nx h := F.lt fun w => hz (Or.inr w)
    have h121 : 121 ≤ z := Nat.le_of_not_lt fun w => hz (Or.inl (F.2.2.1 z w))
    obtain ⟨a1, a2⟩ := c1 z k (Or.inr (Nat.le_trans hlo h121)) hlt
    exact ⟨a1, a2, rfl⟩
  have R1 : RM τ n p A c B K (h'.1, h'.2.1, h.2.2.1, h'.2.2.2) := R.f01 X (F.same c3) G (fun f hf => F.lt (by omega)) (fun f hf => F.lt (by omega)) (fun f hf => F.lt (by omega))
  exact R1.noL h'.2.2.1
theorem RM.knk (R : RM τ n p A c B K h) (v : Int32) : RM τ n p A c B v (sI (sI h 121 0 0) 121 8 v) := by
  have R0 : RM τ n p A c B K (sI h 121 0 0) := R.th
  generalize sI h 121 0 0 = h0 at *
  obtain ⟨F, ⟨m1, m2, m3, m4, m5, m6, m7⟩, N, D, Fr9, AL1, AE1, BL1, BE1⟩ := R0
  have X : Ext τ h0 τ (sI h0 121 8 v) := Ext.same (fun _ => rfl) (fun _ => rfl) rfl
  have G : Ag τ (fun s => s = 2) h0 (sI h0 121 8 v) := (Ag.refl _ h0).sI F.2.2.2.1
  refine ⟨F.same X.2, ⟨X.k m1, m2, m3, m4, ?_, m6, ?_⟩, N.fr F X G (by omega) (by omega), fun j hj => ?_, fun f hf => (Fr9 f hf).fr X G (by omega), AL1.fr F X G (by omega) (by omega), fun f hf => (AE1 f hf).fr X, BL1.fr F X G (by omega) (by omega), fun f hf => (BE1 f hf).fr X G (by omega)⟩
  · rw [gI_sI, if_neg (by omega)]; exact m5
  · rw [gI_sI, if_pos ⟨rfl, rfl⟩]
  · obtain ⟨d1, d2, d3, d4, d5⟩ := D j hj
    exact ⟨d1.fr X G (by omega), d2.fr d1 G (by omega), d3.fr d1 X G (by omega) (by omega), d4.fr d1 G (by omega) (by omega), d5.fr d1 G (by omega)⟩
/-- a new list, kept at a k -/
def mdl9 (h : Hp) (q a k : Nat) : Hp := sR (sR (sI (hN h kc_ArrayList 0 3) q 0 0) q 1 (some eD)) a k (some q)
theorem gI_mdl9 {q a k : Nat} (hq : nx h = q) (x j : Nat) : gI (mdl9 h q a k) x j = if x = q then 0 else gI h x j := by
  unfold mdl9
  rw [gI_sR, gI_sR, gI_sI, gI_hN, hq]
  by_cases e : x = q
  · rw [if_pos e]; split <;> rfl
  · rw [if_neg (fun w => e w.1)]
theorem gR_mdl9 {q a k : Nat} (hq : nx h = q) (x j : Nat) : gR (mdl9 h q a k) x j = if x = a ∧ j = k then some q else if x = q then (if j = 1 then some eD else none) else gR h x j := by
  unfold mdl9
  rw [gR_sR, gR_sR, gR_sI, gR_hN, hq]
  by_cases e : x = a ∧ j = k
  · rw [if_pos e, if_pos e]
  · rw [if_neg e, if_neg e]
    by_cases e2 : x = q
    · by_cases e3 : j = 1
      · rw [if_pos ⟨e2, e3⟩, if_pos e2, if_pos e3]
      · rw [if_neg (fun w => e3 w.2), if_pos e2, if_pos e2, if_neg e3]
    · rw [if_neg (fun w => e2 w.1), if_neg e2, if_neg e2]
theorem gL_mdl9 {q a k : Nat} (hq : nx h = q) (x j : Nat) : gL (mdl9 h q a k) x j = if x = q then 0 else gL h x j := by rw [← hq]; rfl
theorem kd_mdl9 {q a k : Nat} (hq : nx h = q) (x : Nat) : kd (mdl9 h q a k) x = if x = q then kc_ArrayList else kd h x := by rw [← hq]; rfl
theorem ln_mdl9 {q a k : Nat} (hq : nx h = q) (x : Nat) : ln (mdl9 h q a k) x = if x = q then 0 else ln h x := by rw [← hq]; rfl
theorem nx_mdl9 {q a k : Nat} (hq : nx h = q) : nx (mdl9 h q a k) = q + 1 := by rw [← hq]; rfl
theorem sc_mdl9 {q a k : Nat} : sc (mdl9 h q a k) = sc h + 3 := rfl
theorem q_mdlInit (hk : kd h 121 = kc_Mdl) (hn : nx h = 122) (hs : sc h ≤ 10000) (Q : MRes → Hp → Prop) : WP Gm j_Mdl_init 0 [some (.inr (.inl (some 121)))] [] h Q = Q (.inl none) (mdl9 (mdl9 (mdl9 (sI h 121 2 41) 122 121 9) 123 121 10) 124 121 11) := by
  generalize hh0 : sI h 121 2 41 = h0
  have n0 : nx h0 = 122 := by rw [← hh0]; exact hn
  have s0 : sc h0 = sc h := by rw [← hh0]; rfl
  have k0 : kd h0 121 = kc_Mdl := by rw [← hh0]; exact hk
  have n1 : nx (mdl9 h0 122 121 9) = 123 := nx_mdl9 n0
  have k1 : kd (mdl9 h0 122 121 9) 121 = kc_Mdl := by rw [kd_mdl9 n0, if_neg (by omega)]; exact k0
  have s1 : sc (mdl9 h0 122 121 9) = sc h + 3 := by rw [sc_mdl9, s0]
  have o0 : okR cM sM h0 1 3 = true := ok_small (by omega) (by omega) (by omega) (by omega)
  have o1 : okR cM sM (mdl9 h0 122 121 9) 1 3 = true := ok_small (by omega) (by omega) (by omega) (by omega)
  have i0 : isK (hN h0 kc_ArrayList 0 3) 122 kc_ArrayList = true := isK_of (by rw [nx_hN]; omega) (by rw [kd_hN, if_pos n0.symm])
  have j0 : isK (hN h0 kc_ArrayList 0 3) 121 kc_Mdl = true := isK_of (by rw [nx_hN]; omega) (by rw [kd_hN, if_neg (by omega)]; exact k0)
  generalize hh1 : mdl9 h0 122 121 9 = h1 at *
  have i1 : isK (hN h1 kc_ArrayList 0 3) 123 kc_ArrayList = true := isK_of (by rw [nx_hN]; omega) (by rw [kd_hN, if_pos n1.symm])
  have j1 : isK (hN h1 kc_ArrayList 0 3) 121 kc_Mdl = true := isK_of (by rw [nx_hN]; omega) (by rw [kd_hN, if_neg (by omega)]; exact k1)
  have n2 : nx (mdl9 h1 123 121 10) = 124 := nx_mdl9 n1
  have k2 : kd (mdl9 h1 123 121 10) 121 = kc_Mdl := by rw [kd_mdl9 n1, if_neg (by omega)]; exact k1
  have s2 : sc (mdl9 h1 123 121 10) = sc h + 6 := by rw [sc_mdl9, s1]
  have o2 : okR cM sM (mdl9 h1 123 121 10) 1 3 = true := ok_small (by omega) (by omega) (by omega) (by omega)
  generalize hh2 : mdl9 h1 123 121 10 = h2 at *
  have i2 : isK (hN h2 kc_ArrayList 0 3) 124 kc_ArrayList = true := isK_of (by rw [nx_hN]; omega) (by rw [kd_hN, if_pos n2.symm])
  have j2 : isK (hN h2 kc_ArrayList 0 3) 121 kc_Mdl = true := isK_of (by rw [nx_hN]; omega) (by rw [kd_hN, if_neg (by omega)]; exact k2)
  have kk : isK h 121 kc_Mdl = true := isK_of (by omega) hk
  have w0 : sR (sR (sI (hN h0 kc_ArrayList 0 3) 122 0 0) 122 1 (some eD)) 121 9 (some 122) = h1 := hh1
  have w1 : sR (sR (sI (hN h1 kc_ArrayList 0 3) 123 0 0) 123 1 (some eD)) 121 10 (some 123) = h2 := hh2
  simp only [↓e_Mdl_init_0, ↓e_Mdl_init_1, ↓e_Mdl_init_4, ↓e_Mdl_init_5, ↓e_Mdl_init_7, ↓e_Mdl_init_10, ↓e_Mdl_init_11, ↓e_Mdl_init_14, ↓e_Mdl_init_15, ↓e_Mdl_init_18, ↓e_Mdl_init_21, ↓e_Mdl_init_22, ↓e_Mdl_init_25, ↓e_Mdl_init_26, ↓e_Mdl_init_29, ↓e_Mdl_init_32, ↓e_Mdl_init_33, ↓e_Mdl_init_36, ↓e_Mdl_init_37, ↓e_Mdl_init_40, ↓e_Mdl_init_43, not_true_eq_false, not_false_eq_true, one0, true_or, or_true, eq_self, bI_z, bI_nz, bI_o, b_ft, bI_1, bI_0, ↓kC_l, ↓kC_r, Option.toList_some, Option.toList_none, List.cons_append, List.nil_append, s1_0, s1_1i, s1_1r, s1_1w, s1_1n, s1_s, s2_0, s2_1i, s2_1r, s2_1w, s2_1n, s2_s, gI_sI, gI_sR, gI_sL, gI_sD, gR_sI, gR_sR, gR_sL, gR_sD, gL_sI, gL_sR, gL_sL, gL_sD, gD_sI, gD_sR, gD_sL, gD_sD, isK_sI, isK_sR, isK_sL, isK_sD, inL_sI, inL_sR, inL_sL, inL_sD, nx_sI, nx_sR, nx_sL, nx_sD, kd_sI, kd_sR, kd_sL, kd_sD, ln_sI, ln_sR, ln_sL, ln_sD, ↓reduceIte, c8_n, c8_1, c8_2, c8_3, c8_4, Nat.reduceAdd, kk, hh0, o0, n0, i0, q_listInit _ i0, j0, w0, o1, n1, i1, q_listInit _ i1, j1, w1, o2, n2, i2, q_listInit _ i2, j2]
  rfl
def tau0 : Nat → Nat := fun x => if x < 121 then 0 else if x = 121 then 2 else if x = 122 then 3 else if x = 123 then 4 else if x = 124 then 5 else 1
theorem tau0_no (x r : Nat) (hr : 6 ≤ r) : ¬ tau0 x = r := by
  unfold tau0
  repeat' split
  all_goals omega
theorem rm_start (hk : kd h 121 = kc_Mdl) (hn : nx h = 122) (z : ∀ k, gI h 121 k = 0) : RM tau0 0 (fun _ => 0) (8 * 0) 0 0 0 (mdl9 (mdl9 (mdl9 (sI h 121 2 41) 122 121 9) 123 121 10) 124 121 11) := by
  have n0 : nx (sI h 121 2 41) = 122 := hn
  have n1 := nx_mdl9 (a := 121) (k := 9) n0
  have n2 := nx_mdl9 (a := 121) (k := 10) n1
  have n3 := nx_mdl9 (a := 121) (k := 11) n2
  have I := fun x j => (gI_mdl9 (a := 121) (k := 11) n2 x j).trans (by rw [gI_mdl9 n1, gI_mdl9 n0])
  have Rr := fun x j => (gR_mdl9 (a := 121) (k := 11) n2 x j).trans (by rw [gR_mdl9 n1, gR_mdl9 n0])
  have Kk := fun x => (kd_mdl9 (a := 121) (k := 11) n2 x).trans (by rw [kd_mdl9 n1, kd_mdl9 n0])
  generalize mdl9 (mdl9 (mdl9 (sI h 121 2 41) 122 121 9) 123 121 10) 124 121 11 = g at *
  have li : ∀ l, l = 122 ∨ l = 123 ∨ l = 124 → Li g l eD 0 := fun l hl => by
    refine ⟨isK_of (by omega) ?_, ?_, ?_, by omega, Or.inl ⟨rfl, rfl⟩⟩
    · rw [Kk]; rcases hl with rfl | rfl | rfl <;> rfl
    · rw [Rr]; rcases hl with rfl | rfl | rfl <;> rfl
    · rw [I]; rcases hl with rfl | rfl | rfl <;> rfl
  have i121 : ∀ k, k ≠ 2 → gI g 121 k = 0 := fun k hk2 => by
    rw [I, if_neg (by omega), if_neg (by omega), if_neg (by omega), gI_sI, if_neg (by omega)]; exact z k
  refine ⟨⟨by omega, fun x hx => ?_, fun x hx => if_pos hx, rfl, rfl, rfl, rfl⟩, ⟨isK_of (by omega) (by rw [Kk, if_neg (by omega), if_neg (by omega), if_neg (by omega)]; exact hk), ?_, ?_, ?_, i121 1 (by omega), by omega, i121 8 (by omega)⟩, ⟨by omega, 0, Or.inl rfl, eD, li 122 (by omega), Or.inl ⟨rfl, rfl⟩, fun j hj => absurd hj (by omega)⟩, fun i hi => absurd hi (by omega), fun f hf => absurd hf (tau0_no f 9 (by omega)), ⟨0, by omega, ⟨Or.inl rfl, by omega⟩, eD, li 123 (by omega), Or.inl ⟨rfl, rfl⟩, fun j hj => absurd hj (by omega)⟩, fun f hf => absurd hf (tau0_no f 10 (by omega)), ⟨0, 0, by omega, Or.inl rfl, eD, li 124 (by omega), Or.inl ⟨rfl, rfl⟩, fun j hj => absurd hj (by omega)⟩, fun f hf => absurd hf (tau0_no f 11 (by omega))⟩
  · unfold tau0
    rw [if_neg (by omega), if_neg (by omega), if_neg (by omega), if_neg (by omega), if_neg (by omega)]
  · rw [Rr]; rfl
  · rw [Rr]; rfl
  · rw [Rr]; rfl
end LWA
