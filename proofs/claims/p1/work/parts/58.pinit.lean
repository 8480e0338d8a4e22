/-! pinit: the constructors: queues, sets, nodes -/
theorem ok_small {h : Hp} {m s : Nat} (h1 : nx h ≤ 2000) (h2 : sc h ≤ 100000) (h3 : m ≤ 2000) (h4 : s ≤ 100000) : okR cM sM h m s = true := by
  have a : 100000 ≤ cM := by decide
  have b : 1000000 ≤ sM := by decide
  unfold okR
  rw [decide_eq_true (p := nx h + m ≤ cM + 1) (by omega), decide_eq_true (p := sc h + s ≤ sM) (by omega)]
  rfl
theorem isK_of {h : Hp} {a c : Nat} (h1 : a < nx h) (h2 : kd h a = c) : isK h a c = true := by
  unfold isK
  rw [decide_eq_true h1, decide_eq_true h2]
  rfl
/-- the cells of the ids of P are as they were -/
def Sm (P : Nat → Prop) (h h' : Hp) : Prop := ∀ b k, P b → gI h' b k = gI h b k ∧ gR h' b k = gR h b k ∧ gL h' b k = gL h b k
def Km (s : Nat) (h h' : Hp) : Prop := (∀ b, b < nx h → kd h' b = kd h b ∧ ln h' b = ln h b) ∧ nx h ≤ nx h' ∧ sc h' ≤ sc h + s
section IN
variable {P P' : Nat → Prop} {s s' a : Nat} {h h1 h2 h3 : Hp}
theorem Sm.refl (h : Hp) : Sm P h h := fun _ _ _ => ⟨rfl, rfl, rfl⟩
theorem Sm.trans (x : Sm P h1 h2) (y : Sm P h2 h3) : Sm P h1 h3 := fun b k q => by
  obtain ⟨x1, x2, x3⟩ := x b k q
  obtain ⟨y1, y2, y3⟩ := y b k q
  exact ⟨y1.trans x1, y2.trans x2, y3.trans x3⟩
theorem Sm.mono (x : Sm P h1 h2) (hP : ∀ b, P' b → P b) : Sm P' h1 h2 := fun b k q => x b k (hP b q)
theorem Sm.hN (x : Sm P h1 h2) (c m s : Nat) (hP : ¬ P (nx h2)) : Sm P h1 (hN h2 c m s) := fun b k q => by
  have : ¬ b = nx h2 := fun e => hP (e ▸ q)
  rw [gI_hN, gR_hN, gL_hN, if_neg this, if_neg this, if_neg this]
  exact x b k q
theorem Sm.sI (x : Sm P h1 h2) (k : Nat) (v : Int32) (hP : ¬ P a) : Sm P h1 (sI h2 a k v) := fun b j q => by
  have : ¬ (b = a ∧ j = k) := fun e => hP (e.1 ▸ q)
  rw [gI_sI, gR_sI, gL_sI, if_neg this]
  exact x b j q
theorem Sm.sR (x : Sm P h1 h2) (k : Nat) (v : Option Nat) (hP : ¬ P a) : Sm P h1 (sR h2 a k v) := fun b j q => by
  have : ¬ (b = a ∧ j = k) := fun e => hP (e.1 ▸ q)
  rw [gI_sR, gR_sR, gL_sR, if_neg this]
  exact x b j q
theorem Sm.fr {WI WR WL : Nat → Nat → Prop} (x : Sm P h1 h2) (F : Fr WI WR WL h2 h3) (hI : ∀ b k, P b → ¬ WI b k) (hR : ∀ b k, P b → ¬ WR b k) (hL : ∀ b k, P b → ¬ WL b k) : Sm P h1 h3 :=
  x.trans fun b k q => ⟨F.1 b k (hI b k q), F.2.1 b k (hR b k q), F.2.2.1 b k (hL b k q)⟩
theorem Km.refl (h : Hp) : Km 0 h h := ⟨fun _ _ => ⟨rfl, rfl⟩, Nat.le_refl _, Nat.le_refl _⟩
theorem Km.trans (x : Km s h1 h2) (y : Km s' h2 h3) : Km (s + s') h1 h3 := ⟨fun b q => by
  obtain ⟨x1, x2⟩ := x.1 b q
  obtain ⟨y1, y2⟩ := y.1 b (Nat.lt_of_lt_of_le q x.2.1)
  exact ⟨y1.trans x1, y2.trans x2⟩, Nat.le_trans x.2.1 y.2.1, by have := x.2.2; have := y.2.2; omega⟩
theorem Km.le (x : Km s h1 h2) (hs : s ≤ s') : Km s' h1 h2 := ⟨x.1, x.2.1, Nat.le_trans x.2.2 (by omega)⟩
theorem Km.hN (x : Km s h1 h2) (c m s' : Nat) : Km (s + s') h1 (hN h2 c m s') := x.trans ⟨fun b q => by rw [kd_hN, ln_hN, if_neg (by omega), if_neg (by omega)]; exact ⟨rfl, rfl⟩, by rw [nx_hN]; omega, by rw [sc_hN]; exact Nat.le_refl _⟩
theorem Km.sI (x : Km s h1 h2) (k : Nat) (v : Int32) : Km s h1 (sI h2 a k v) := x
theorem Km.sR (x : Km s h1 h2) (k : Nat) (v : Option Nat) : Km s h1 (sR h2 a k v) := x
theorem Km.fr {WI WR WL : Nat → Nat → Prop} (x : Km s h1 h2) (F : Fr WI WR WL h2 h3) : Km s h1 h3 := by
  refine (x.trans (s' := 0) ⟨fun b _ => ⟨F.2.2.2.1 b, F.2.2.2.2.1 b⟩, ?_, ?_⟩)
  · rw [F.2.2.2.2.2.1]; exact Nat.le_refl _
  · rw [F.2.2.2.2.2.2]; exact Nat.le_refl _
theorem q_frameInit (hk : isK h a kc_Frame = true) : ∃ h', (∀ Q, WP Gm j_Frame_init 0 [some (.inr (.inl (some a)))] [] h Q = Q (.inl none) h') ∧ Fr (fun b _ => b = a) nW nW h h' := by
  refine ⟨sI (sI (sI (sI (sI h a 0 0) a 1 0) a 2 0) a 3 0) a 4 0, fun Q => ?_, (((((Fr.refl (WI := fun b _ => b = a) (WR := nW) (WL := nW) h).sI _ rfl).sI _ rfl).sI _ rfl).sI _ rfl).sI _ rfl⟩
  simp only [↓e_Frame_init_0, ↓e_Frame_init_1, ↓e_Frame_init_4, ↓e_Frame_init_5, ↓e_Frame_init_6, ↓e_Frame_init_9, ↓e_Frame_init_10, ↓e_Frame_init_11, ↓e_Frame_init_14, ↓e_Frame_init_15, ↓e_Frame_init_16, ↓e_Frame_init_19, ↓e_Frame_init_20, ↓e_Frame_init_21, ↓e_Frame_init_24, ↓e_Frame_init_25, ↓e_Frame_init_26, ↓e_Frame_init_29, not_true_eq_false, not_false_eq_true, one0, true_or, or_true, eq_self, bI_z, bI_nz, bI_o, b_ft, bI_1, bI_0, ↓kC_l, ↓kC_r, Option.toList_some, Option.toList_none, List.cons_append, List.nil_append, s1_0, s1_1i, s1_1r, s1_1w, s1_1n, s1_s, s2_0, s2_1i, s2_1r, s2_1w, s2_1n, s2_s, gI_sI, gI_sR, gI_sL, gI_sD, gR_sI, gR_sR, gR_sL, gR_sD, gL_sI, gL_sR, gL_sL, gL_sD, gD_sI, gD_sR, gD_sL, gD_sD, isK_sI, isK_sR, isK_sL, isK_sD, inL_sI, inL_sR, inL_sL, inL_sD, nx_sI, nx_sR, nx_sL, nx_sD, kd_sI, kd_sR, kd_sL, kd_sD, ln_sI, ln_sR, ln_sL, ln_sD, ↓reduceIte, c8_n, c8_1, c8_2, c8_3, c8_4, Nat.reduceAdd, hk]
def FQ (a : Nat) (h : Hp) : Prop := gR h a 0 = some (a + 1) ∧ gI h a 1 = 0 ∧ kd h (a + 1) = 103 ∧ ln h (a + 1) = 4 ∧ ∀ i, i < 4 → gR h (a + 1) i = some (a + 2 + i) ∧ kd h (a + 2 + i) = kc_Frame
theorem q_queueInit (hk : kd h a = kc_FrameQueue) (hn : nx h = a + 1) (ha : a ≤ 1000) (hs : sc h ≤ 50000) : ∃ h', (∀ Q, WP Gm j_FrameQueue_init 0 [some (.inr (.inl (some a))), none] [] h Q = Q (.inl none) h') ∧ Sm (fun b => b < a) h h' ∧ Km 24 h h' ∧ nx h' = a + 6 ∧ FQ a h' := by
  generalize hg0 : sI (sR (hN h 103 4 4) a 0 (some (a + 1))) a 1 0 = g0
  have s0 : Sm (fun b => b < a) h g0 := by rw [← hg0]; exact (((Sm.refl h).hN _ _ _ (by omega)).sR _ _ (by omega)).sI _ _ (by omega)
  have m0 : Km 4 h g0 := by rw [← hg0]; exact (((Km.refl h).hN 103 4 4).sR _ _).sI _ _
  have n0 : nx g0 = a + 2 := by rw [← hg0, nx_sI, nx_sR, nx_hN, hn]
  have r0 : gR g0 a 0 = some (a + 1) := by rw [← hg0, gR_sI, gR_sR, if_pos ⟨rfl, rfl⟩]
  have i0 : gI g0 a 1 = 0 := by rw [← hg0, gI_sI, if_pos ⟨rfl, rfl⟩]
  have k0 : kd g0 (a + 1) = 103 := by rw [← hg0, kd_sI, kd_sR, kd_hN, if_pos hn.symm]
  have l0 : ln g0 (a + 1) = 4 := by rw [← hg0, ln_sI, ln_sR, ln_hN, if_pos hn.symm]
  obtain ⟨g, e1, gs, gm, gn, gr, gi, gk, gl, gf⟩ := loopR (fun Q k (g : Hp) => WP Gm j_FrameQueue_init 19 [some (.inr (.inl (some a))), some (.inl (ii k))] [] g Q)
    (fun k g => Sm (fun b => b < a) h g ∧ Km (4 + 5 * k) h g ∧ nx g = a + 2 + k ∧ gR g a 0 = some (a + 1) ∧ gI g a 1 = 0 ∧ kd g (a + 1) = 103 ∧ ln g (a + 1) = 4 ∧ ∀ i, i < k → gR g (a + 1) i = some (a + 2 + i) ∧ kd g (a + 2 + i) = kc_Frame) 4
    (fun k g hk4 hI => by
      obtain ⟨gs, gm, gn, gr, gi, gk, gl, gf⟩ := hI
      have hsc := gm.2.2
      have f1 : isK g a kc_FrameQueue = true := isK_of (by omega) (by rw [(gm.1 a (by omega)).1]; exact hk)
      have hr : okR cM sM g 1 5 = true := ok_small (by omega) (by omega) (by omega) (by omega)
      generalize hg1 : hN g kc_Frame 0 5 = g1
      have n1 : nx g1 = a + 2 + k + 1 := by rw [← hg1, nx_hN, gn]
      have f2 : isK g1 (a + 2 + k) kc_Frame = true := isK_of (by omega) (by rw [← hg1, kd_hN, if_pos gn.symm])
      obtain ⟨g2, e2, F2⟩ := q_frameInit f2
      have n2 : nx g2 = a + 2 + k + 1 := by rw [F2.2.2.2.2.2.1, n1]
      have kd2 : ∀ b, kd g2 b = if b = a + 2 + k then kc_Frame else kd g b := fun b => by rw [F2.2.2.2.1, ← hg1, kd_hN, gn]
      have ln2 : ∀ b, ln g2 b = if b = a + 2 + k then 0 else ln g b := fun b => by rw [F2.2.2.2.2.1, ← hg1, ln_hN, gn]
      have f3 : isK g2 (a + 1) 103 = true := isK_of (by omega) (by rw [kd2, if_neg (by omega)]; exact gk)
      have f4 : inL g2 (a + 1) (ii k) = true := inL_n (by omega) (by rw [ln2, if_neg (by omega), gl]; exact hk4)
      have f5 : isK g2 (a + 2 + k) kc_Frame = true := isK_of (by omega) (by rw [kd2, if_pos rfl])
      have hle : ((4 : Int32) ≤ ii k) = False := lle_f (n := 4) (by omega) hk4
      have gR2 : ∀ b j, b ≠ a + 2 + k → gR g2 b j = gR g b j := fun b j hb => by rw [F2.2.1 _ _ (fun w => w), ← hg1, gR_hN, gn, if_neg hb]
      have gI2 : ∀ b j, b ≠ a + 2 + k → gI g2 b j = gI g b j := fun b j hb => by rw [F2.1 _ _ hb, ← hg1, gI_hN, gn, if_neg hb]
      refine ⟨sR g2 (a + 1) k (some (a + 2 + k)), fun Q => ?_, ?_, ?_, ?_, ?_, ?_, ?_, ?_, fun i hi => ⟨?_, ?_⟩⟩
      · rw [e_FrameQueue_init_19]
        simp only [↓e_FrameQueue_init_0, ↓e_FrameQueue_init_1, ↓e_FrameQueue_init_4, ↓e_FrameQueue_init_5, ↓e_FrameQueue_init_6, ↓e_FrameQueue_init_9, ↓e_FrameQueue_init_12, ↓e_FrameQueue_init_13, ↓e_FrameQueue_init_14, ↓e_FrameQueue_init_17, ↓e_FrameQueue_init_18, ↓e_FrameQueue_init_20, ↓e_FrameQueue_init_21, ↓e_FrameQueue_init_24, ↓e_FrameQueue_init_25, ↓e_FrameQueue_init_28, ↓e_FrameQueue_init_29, ↓e_FrameQueue_init_32, ↓e_FrameQueue_init_33, ↓e_FrameQueue_init_36, ↓e_FrameQueue_init_37, ↓e_FrameQueue_init_40, ↓e_FrameQueue_init_43, not_true_eq_false, not_false_eq_true, one0, true_or, or_true, eq_self, bI_z, bI_nz, bI_o, b_ft, bI_1, bI_0, ↓kC_l, ↓kC_r, Option.toList_some, Option.toList_none, List.cons_append, List.nil_append, s1_0, s1_1i, s1_1r, s1_1w, s1_1n, s1_s, s2_0, s2_1i, s2_1r, s2_1w, s2_1n, s2_s, gI_sI, gI_sR, gI_sL, gI_sD, gR_sI, gR_sR, gR_sL, gR_sD, gL_sI, gL_sR, gL_sL, gL_sD, gD_sI, gD_sR, gD_sL, gD_sD, isK_sI, isK_sR, isK_sL, isK_sD, inL_sI, inL_sR, inL_sL, inL_sD, nx_sI, nx_sR, nx_sL, nx_sD, kd_sI, kd_sR, kd_sL, kd_sD, ln_sI, ln_sR, ln_sL, ln_sD, ↓reduceIte, c8_n, c8_1, c8_2, c8_3, c8_4, Nat.reduceAdd, hle, f1, gr, hr, hg1, gn, f2, e2, f3, f4, f5, ii_nat (show k < 2147483648 by omega), ii_succ]
      · have s1 : Sm (fun b => b < a) h g1 := by rw [← hg1]; exact gs.hN _ _ _ (by omega)
        exact (s1.fr F2 (fun b k q => by omega) (fun b k q w => w) (fun b k q w => w)).sR _ _ (by omega)
      · have m1 : Km (4 + 5 * k + 5) h g1 := by rw [← hg1]; exact gm.hN _ _ _
        exact ((m1.fr F2).sR _ _).le (by omega)
      · rw [nx_sR, n2]; omega
      · rw [gR_sR, if_neg (by omega), gR2 _ _ (by omega)]; exact gr
      · rw [gI_sR, gI2 _ _ (by omega)]; exact gi
      · rw [kd_sR, kd2, if_neg (by omega)]; exact gk
      · rw [ln_sR, ln2, if_neg (by omega)]; exact gl
      · rw [gR_sR]
        by_cases e : i = k
        · rw [if_pos ⟨rfl, e⟩, e]
        · rw [if_neg (fun q => e q.2), gR2 _ _ (by omega)]
          exact (gf i (by omega)).1
      · rw [kd_sR, kd2]
        by_cases e : i = k
        · rw [if_pos (by omega)]
        · rw [if_neg (by omega)]
          exact (gf i (by omega)).2) 4 0 g0 (by omega) ⟨s0, m0, n0, r0, i0, k0, l0, fun i hi => absurd hi (by omega)⟩
  refine ⟨g, fun Q => ?_, gs, gm, gn, gr, gi, gk, gl, gf⟩
  have hr : okR cM sM h 1 (Int32.toNatClampNeg 4) = true := ok_small (by omega) (by omega) (by omega) (by decide)
  have hi : (0 : Int32) ≤ 4 ∧ (4 : Int32).toNatClampNeg ≤ 1000000 := by decide
  have t4 : Int32.toNatClampNeg 4 = 4 := by decide
  have f1 : isK (hN h 103 4 4) a kc_FrameQueue = true := isK_of (by rw [nx_hN]; omega) (by rw [kd_hN, if_neg (by omega)]; exact hk)
  have pre : WP Gm j_FrameQueue_init 0 [some (.inr (.inl (some a))), none] [] h Q = WP Gm j_FrameQueue_init 19 [some (.inr (.inl (some a))), some (.inl (ii 0))] [] g0 Q := by
    simp only [↓e_FrameQueue_init_0, ↓e_FrameQueue_init_1, ↓e_FrameQueue_init_4, ↓e_FrameQueue_init_5, ↓e_FrameQueue_init_9, ↓e_FrameQueue_init_12, ↓e_FrameQueue_init_13, ↓e_FrameQueue_init_14, ↓e_FrameQueue_init_17, ↓e_FrameQueue_init_18, ↓e_FrameQueue_init_20, ↓e_FrameQueue_init_21, ↓e_FrameQueue_init_24, ↓e_FrameQueue_init_25, ↓e_FrameQueue_init_28, ↓e_FrameQueue_init_29, ↓e_FrameQueue_init_32, ↓e_FrameQueue_init_33, ↓e_FrameQueue_init_36, ↓e_FrameQueue_init_37, ↓e_FrameQueue_init_40, ↓e_FrameQueue_init_43, not_true_eq_false, not_false_eq_true, one0, true_or, or_true, eq_self, bI_z, bI_nz, bI_o, b_ft, bI_1, bI_0, ↓kC_l, ↓kC_r, Option.toList_some, Option.toList_none, List.cons_append, List.nil_append, s1_0, s1_1i, s1_1r, s1_1w, s1_1n, s1_s, s2_0, s2_1i, s2_1r, s2_1w, s2_1n, s2_s, gI_sI, gI_sR, gI_sL, gI_sD, gR_sI, gR_sR, gR_sL, gR_sD, gL_sI, gL_sR, gL_sL, gL_sD, gD_sI, gD_sR, gD_sL, gD_sD, isK_sI, isK_sR, isK_sL, isK_sD, inL_sI, inL_sR, inL_sL, inL_sD, nx_sI, nx_sR, nx_sL, nx_sD, kd_sI, kd_sR, kd_sL, kd_sD, ln_sI, ln_sR, ln_sL, ln_sD, ↓reduceIte, c8_n, c8_1, c8_2, c8_3, c8_4, Nat.reduceAdd]
    rw [e_FrameQueue_init_6 (i := 4) (hi := hi) (hr := hr)]
    simp only [↓e_FrameQueue_init_0, ↓e_FrameQueue_init_1, ↓e_FrameQueue_init_4, ↓e_FrameQueue_init_5, ↓e_FrameQueue_init_9, ↓e_FrameQueue_init_12, ↓e_FrameQueue_init_13, ↓e_FrameQueue_init_14, ↓e_FrameQueue_init_17, ↓e_FrameQueue_init_18, ↓e_FrameQueue_init_20, ↓e_FrameQueue_init_21, ↓e_FrameQueue_init_24, ↓e_FrameQueue_init_25, ↓e_FrameQueue_init_28, ↓e_FrameQueue_init_29, ↓e_FrameQueue_init_32, ↓e_FrameQueue_init_33, ↓e_FrameQueue_init_36, ↓e_FrameQueue_init_37, ↓e_FrameQueue_init_40, ↓e_FrameQueue_init_43, not_true_eq_false, not_false_eq_true, one0, true_or, or_true, eq_self, bI_z, bI_nz, bI_o, b_ft, bI_1, bI_0, ↓kC_l, ↓kC_r, Option.toList_some, Option.toList_none, List.cons_append, List.nil_append, s1_0, s1_1i, s1_1r, s1_1w, s1_1n, s1_s, s2_0, s2_1i, s2_1r, s2_1w, s2_1n, s2_s, gI_sI, gI_sR, gI_sL, gI_sD, gR_sI, gR_sR, gR_sL, gR_sD, gL_sI, gL_sR, gL_sL, gL_sD, gD_sI, gD_sR, gD_sL, gD_sD, isK_sI, isK_sR, isK_sL, isK_sD, inL_sI, inL_sR, inL_sL, inL_sD, nx_sI, nx_sR, nx_sL, nx_sD, kd_sI, kd_sR, kd_sL, kd_sD, ln_sI, ln_sR, ln_sL, ln_sD, ↓reduceIte, c8_n, c8_1, c8_2, c8_3, c8_4, Nat.reduceAdd, t4, hn, f1, hg0]
    rfl
  rw [pre]
  refine (e1 Q).trans ?_
  rw [e_FrameQueue_init_19]
  simp only [↓e_FrameQueue_init_0, ↓e_FrameQueue_init_1, ↓e_FrameQueue_init_4, ↓e_FrameQueue_init_5, ↓e_FrameQueue_init_6, ↓e_FrameQueue_init_9, ↓e_FrameQueue_init_12, ↓e_FrameQueue_init_13, ↓e_FrameQueue_init_14, ↓e_FrameQueue_init_17, ↓e_FrameQueue_init_18, ↓e_FrameQueue_init_20, ↓e_FrameQueue_init_21, ↓e_FrameQueue_init_24, ↓e_FrameQueue_init_25, ↓e_FrameQueue_init_28, ↓e_FrameQueue_init_29, ↓e_FrameQueue_init_32, ↓e_FrameQueue_init_33, ↓e_FrameQueue_init_36, ↓e_FrameQueue_init_37, ↓e_FrameQueue_init_40, ↓e_FrameQueue_init_43, not_true_eq_false, not_false_eq_true, one0, true_or, or_true, eq_self, bI_z, bI_nz, bI_o, b_ft, bI_1, bI_0, ↓kC_l, ↓kC_r, Option.toList_some, Option.toList_none, List.cons_append, List.nil_append, s1_0, s1_1i, s1_1r, s1_1w, s1_1n, s1_s, s2_0, s2_1i, s2_1r, s2_1w, s2_1n, s2_s, gI_sI, gI_sR, gI_sL, gI_sD, gR_sI, gR_sR, gR_sL, gR_sD, gL_sI, gL_sR, gL_sL, gL_sD, gD_sI, gD_sR, gD_sL, gD_sD, isK_sI, isK_sR, isK_sL, isK_sD, inL_sI, inL_sR, inL_sL, inL_sD, nx_sI, nx_sR, nx_sL, nx_sD, kd_sI, kd_sR, kd_sL, kd_sD, ln_sI, ln_sR, ln_sL, ln_sD, ↓reduceIte, c8_n, c8_1, c8_2, c8_3, c8_4, Nat.reduceAdd, (show ((4 : Int32) ≤ ii 4) = True from eq_true (by decide))]
end IN
