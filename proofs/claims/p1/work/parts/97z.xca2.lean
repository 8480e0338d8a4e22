/-! xca2: the country's queues, draws, receives, ends in values -/
theorem asQ_q (α : As) (i m : Nat) (w : Nat → Nat → Int32) : (asQ α i m w).2.1 i = m := if_pos rfl
theorem asQ_w (α : As) (i m : Nat) (w : Nat → Nat → Int32) : (asQ α i m w).2.2.1 i = w := if_pos rfl
section XC2
variable {n : Nat} {h h' : Hp} {α β : As}
/-- a frame of values w joins the queue of node i -/
theorem ca_push (V : CA n h α) (S : Str n h) {i : Nat} (hi : i < n) (x0 x1 x2 x3 x4 : Int32) :
    (α.2.1 i = 4 ∧ ∀ Q, WP Gm j_FrameQueue_add 0 [some (.inr (.inl (some (6 + 9 * i)))), some (.inl x0), some (.inl x1), some (.inl x2), some (.inl x3), some (.inl x4), none] [] h Q = Q (.inl (some (.inl 0))) h) ∨
    (α.2.1 i < 4 ∧ ∃ h', (∀ Q, WP Gm j_FrameQueue_add 0 [some (.inr (.inl (some (6 + 9 * i)))), some (.inl x0), some (.inl x1), some (.inl x2), some (.inl x3), some (.inl x4), none] [] h Q = Q (.inl (some (.inl 1))) h') ∧ Str n h' ∧ ∀ w : Nat → Int32, w 0 = x0 → w 1 = x1 → w 2 = x2 → w 3 = x3 → w 4 = x4 → CA n h' (asPush α i w)) := by
  have hn := n8 S
  have hi8 : i < 8 := by omega
  obtain ⟨q1, q2, q3⟩ := V.2.1 i hi
  generalize hq : α.2.1 i = q at *
  rcases q_queueAdd2 S hi8 q2 q1 x0 x1 x2 x3 x4 with ⟨h4, r1⟩ | ⟨h4, f, f1, f2, r1⟩
  · exact Or.inl ⟨by omega, r1⟩
  · refine Or.inr ⟨h4, _, r1, (((((S.sI _ (by omega)).sI _ (by omega)).sI _ (by omega)).sI _ (by omega)).sI _ (by omega)).sI _ (by omega), fun w w0 w1 w2 w3 w4 => ?_⟩
    generalize hg : sI (sI (sI (sI (sI (sI h (8 + 9 * i + f) 0 x0) (8 + 9 * i + f) 1 x1) (8 + 9 * i + f) 2 x2) (8 + 9 * i + f) 3 x3) (8 + 9 * i + f) 4 x4) (6 + 9 * i) 1 (ii (q + 1)) = g
    have F : Fr (fun a k => (8 + 9 * i ≤ a ∧ a < 12 + 9 * i) ∨ (a = 6 + 9 * i ∧ k = 1)) (wR i) nW h g := by
      rw [← hg]
      exact ((((((Fr.refl h).sI _ (by omega)).sI _ (by omega)).sI _ (by omega)).sI _ (by omega)).sI _ (by omega)).sI _ (by omega)
    have eR : ∀ k, gR g (7 + 9 * i) k = gR h (7 + 9 * i) k := fun k => by rw [← hg]; rfl
    have eo : ∀ a k, ¬ a = 8 + 9 * i + f → ¬ (a = 6 + 9 * i ∧ k = 1) → gI g a k = gI h a k := fun a k p1 p2 => by rw [← hg]; simp only [gI_sI]; rw [if_neg (by omega), if_neg (by omega), if_neg (by omega), if_neg (by omega), if_neg (by omega), if_neg (by omega)]
    have ev : ∀ k, k < 5 → gI g (8 + 9 * i + f) k = w k := fun k hk => by
      have : k = 0 ∨ k = 1 ∨ k = 2 ∨ k = 3 ∨ k = 4 := by omega
      have e9 : ¬ (8 + 9 * i + f = 6 + 9 * i) := by omega
      rw [← hg]
      rcases this with rfl | rfl | rfl | rfl | rfl <;> simp only [gI_sI, e9, false_and, Nat.reduceEqDiff, and_false, and_self, ↓reduceIte, w0, w1, w2, w3, w4]
    unfold asPush
    rw [hq]
    refine V.que hn hi F ⟨?_, ?_, ?_⟩ fun k l hk hl e => ?_
    · rw [← hg, gI_sI, if_pos ⟨rfl, rfl⟩]
      rw [asQ_q]
    · rw [asQ_q]; omega
    · intro k hk
      rw [asQ_q] at hk
      rw [asQ_w]
      show ∃ f, f < 4 ∧ gR g (7 + 9 * i) k = some (8 + 9 * i + f) ∧ ∀ v, v < 5 → gI g (8 + 9 * i + f) v = (if k = q then w else α.2.2.1 i k) v
      by_cases e : k = q
      · subst e
        rw [if_pos rfl]
        exact ⟨f, f1, by rw [eR]; exact f2, ev⟩
      · rw [if_neg e]
        obtain ⟨f', g1, g2, g3⟩ := q3 k (by omega)
        have hne : ¬ f' = f := fun w' => e (V.2.2.1 i hi8 k q (by omega) h4 (by rw [g2, f2, w']))
        exact ⟨f', g1, by rw [eR]; exact g2, fun v hv => by rw [eo _ _ (by omega) (by omega)]; exact g3 v hv⟩
    · rw [eR, eR] at e
      exact V.2.2.1 i hi8 k l hk hl e
/-- the first frame of node i goes -/
theorem ca_pop (V : CA n h α) (S : Str n h) {i : Nat} (hi : i < n) (hq0 : ¬ α.2.1 i = 0) : ∃ h', (∀ Q, WP Gm j_FrameQueue_removeFirst 0 [some (.inr (.inl (some (6 + 9 * i)))), none, none] [] h Q = Q (.inl none) h') ∧ Str n h' ∧ CA n h' (asPop α i) := by
  have hn := n8 S
  have hi8 : i < 8 := by omega
  obtain ⟨hq, hq4, hV⟩ := V.2.1 i hi
  generalize hqq : α.2.1 i = q at *
  have h0 : 0 < q := by omega
  have e1 : ((0 : Int32) < ii q) = (0 < q) := ii_lt (i := 0) (by omega) (by omega)
  obtain ⟨f0, hf0, hr0⟩ := r_frame S hi8 (show 0 < 4 by omega)
  obtain ⟨g, c1, -, F1, z1, z2⟩ := loopR (fun Q k (g : Hp) => WP Gm j_FrameQueue_removeFirst 17 [some (.inr (.inl (some (6 + 9 * i)))), some (.inr (.inl (some (8 + 9 * i + f0)))), some (.inl (ii k))] [] g Q)
    (fun k g => 1 ≤ k ∧ Fr nW (wR i) nW h g ∧ (∀ m, m + 1 < k → gR g (7 + 9 * i) m = gR h (7 + 9 * i) (m + 1)) ∧ ∀ m, k ≤ m + 1 → gR g (7 + 9 * i) m = gR h (7 + 9 * i) m) q
    (fun k g hk hI => by
      obtain ⟨hk0, I1, I2, I3⟩ := hI
      have Sg : Str n g := S.frq hi8 I1 (fun q => q) (fun m hm => by
        by_cases hmk : m + 1 < k
        · rw [I2 m hmk]; exact r_frame S hi8 (by omega)
        · rw [I3 m (by omega)]; exact r_frame S hi8 hm)
      obtain ⟨f, hf, hr⟩ := r_frame Sg hi8 (show k < 4 by omega)
      have hgq : gI g (6 + 9 * i) 1 = ii q := by rw [I1.1 _ _ (fun q => q)]; exact hq
      have em : ii k - 1 = ii (k - 1) := ii_pred hk0
      refine ⟨sR g (7 + 9 * i) (k - 1) (some (8 + 9 * i + f)), fun Q => ?_, by omega, I1.sR _ ⟨rfl, by omega⟩, fun m hm => ?_, fun m hm => ?_⟩
      · rw [e_FrameQueue_removeFirst_17]
        simp only [↓e_FrameQueue_removeFirst_0, ↓e_FrameQueue_removeFirst_1, ↓e_FrameQueue_removeFirst_4, ↓e_FrameQueue_removeFirst_7, ↓e_FrameQueue_removeFirst_8, ↓e_FrameQueue_removeFirst_9, ↓e_FrameQueue_removeFirst_12, ↓e_FrameQueue_removeFirst_13, ↓e_FrameQueue_removeFirst_14, ↓e_FrameQueue_removeFirst_15, ↓e_FrameQueue_removeFirst_16, ↓e_FrameQueue_removeFirst_18, ↓e_FrameQueue_removeFirst_19, ↓e_FrameQueue_removeFirst_22, ↓e_FrameQueue_removeFirst_25, ↓e_FrameQueue_removeFirst_26, ↓e_FrameQueue_removeFirst_29, ↓e_FrameQueue_removeFirst_30, ↓e_FrameQueue_removeFirst_31, ↓e_FrameQueue_removeFirst_32, ↓e_FrameQueue_removeFirst_33, ↓e_FrameQueue_removeFirst_36, ↓e_FrameQueue_removeFirst_37, ↓e_FrameQueue_removeFirst_38, ↓e_FrameQueue_removeFirst_39, ↓e_FrameQueue_removeFirst_42, ↓e_FrameQueue_removeFirst_45, ↓e_FrameQueue_removeFirst_46, ↓e_FrameQueue_removeFirst_47, ↓e_FrameQueue_removeFirst_50, ↓e_FrameQueue_removeFirst_51, ↓e_FrameQueue_removeFirst_52, ↓e_FrameQueue_removeFirst_55, ↓e_FrameQueue_removeFirst_56, ↓e_FrameQueue_removeFirst_59, ↓e_FrameQueue_removeFirst_60, ↓e_FrameQueue_removeFirst_63, ↓e_FrameQueue_removeFirst_64, ↓e_FrameQueue_removeFirst_65, not_true_eq_false, not_false_eq_true, one0, true_or, or_true, eq_self, bI_z, bI_nz, bI_o, b_ft, bI_1, bI_0, ↓kC_l, ↓kC_r, Option.toList_some, Option.toList_none, List.cons_append, List.nil_append, s1_0, s1_1i, s1_1r, s1_1w, s1_1n, s1_s, s2_0, s2_1i, s2_1r, s2_1w, s2_1n, s2_s, gI_sI, gI_sR, gI_sL, gI_sD, gR_sI, gR_sR, gR_sL, gR_sD, gL_sI, gL_sR, gL_sL, gL_sD, gD_sI, gD_sR, gD_sL, gD_sD, isK_sI, isK_sR, isK_sL, isK_sD, inL_sI, inL_sR, inL_sL, inL_sD, nx_sI, nx_sR, nx_sL, nx_sD, kd_sI, kd_sR, kd_sL, kd_sD, ln_sI, ln_sR, ln_sL, ln_sD, ↓reduceIte, c8_n, c8_1, c8_2, c8_3, c8_4, Nat.reduceAdd, k_s Sg, k_land Sg, k_nodes Sg, k_hear Sg, k_routes Sg, k_traffic Sg, k_market Sg, g_cnt Sg, r_land Sg, r_routes Sg, r_traffic Sg, r_market Sg, r_nodes Sg, r_hear Sg, r_rland Sg, r_tland Sg, r_troutes Sg, l_nodes Sg hi8, l_hear Sg hi8, r_node Sg hi8, r_queue Sg hi8, r_set Sg hi8, r_frames Sg hi8, r_bits Sg hi8, k_node Sg hi8, k_queue Sg hi8, k_frames Sg hi8, k_set Sg hi8, k_bits Sg hi8, ii_nat (lt31 hi8), hgq, lle_f (show q < 2147483648 by omega) hk, l_frames Sg hi8 (show k < 4 by omega), l_frames Sg hi8 (show k - 1 < 4 by omega), ii_nat (show k < 2147483648 by omega), ii_nat (show k - 1 < 2147483648 by omega), em, hr, k_frame Sg hi8 hf, ii_succ]
      · rw [gR_sR]
        by_cases hmk : m = k - 1
        · rw [if_pos ⟨rfl, hmk⟩, ← hr, I3 k (by omega), hmk, show k - 1 + 1 = k by omega]
        · rw [if_neg (fun q => hmk q.2)]; exact I2 m (by omega)
      · rw [gR_sR, if_neg (by omega)]; exact I3 m (by omega)) (q - 1) 1 h (by omega) ⟨Nat.le_refl 1, Fr.refl h, fun m hm => by omega, fun m hm => rfl⟩
  have Sg : Str n g := S.frq hi8 F1 (fun q => q) (fun m hm => by
    by_cases hmk : m + 1 < q
    · rw [z1 m hmk]; exact r_frame S hi8 (by omega)
    · rw [z2 m (by omega)]; exact r_frame S hi8 hm)
  have hgq : gI g (6 + 9 * i) 1 = ii q := by rw [F1.1 _ _ (fun q => q)]; exact hq
  have em : ii q - 1 = ii (q - 1) := ii_pred h0
  have S2 : Str n (sI g (6 + 9 * i) 1 (ii (q - 1))) := Sg.sI _ (by omega)
  generalize hh' : sR (sI g (6 + 9 * i) 1 (ii (q - 1))) (7 + 9 * i) (q - 1) (some (8 + 9 * i + f0)) = h'
  have F : Fr (fun a k => (8 + 9 * i ≤ a ∧ a < 12 + 9 * i) ∨ (a = 6 + 9 * i ∧ k = 1)) (wR i) nW h h' := by
    rw [← hh']
    exact ((F1.mono (fun _ _ q => q.elim) (fun _ _ q => q) (fun _ _ q => q)).sI _ (Or.inr ⟨rfl, rfl⟩)).sR _ ⟨rfl, by omega⟩
  have hr' : ∀ m, gR h' (7 + 9 * i) m = if m = q - 1 then gR h (7 + 9 * i) 0 else if m + 1 < q then gR h (7 + 9 * i) (m + 1) else gR h (7 + 9 * i) m := fun m => by
    rw [← hh', gR_sR, gR_sI]
    by_cases hm : m = q - 1
    · rw [if_pos ⟨rfl, hm⟩, if_pos hm, hr0]
    · rw [if_neg (fun q => hm q.2), if_neg hm]
      by_cases hm2 : m + 1 < q
      · rw [if_pos hm2, z1 m hm2]
      · rw [if_neg hm2, z2 m (by omega)]
  have S3 : Str n h' := S.frq hi8 F (by omega) (fun m hm => by
    rw [hr' m]
    split
    · exact r_frame S hi8 (by omega)
    · split
      · exact r_frame S hi8 (by omega)
      · exact r_frame S hi8 hm)
  refine ⟨h', fun Q => ?_, S3, ?_⟩
  · simp only [↓e_FrameQueue_removeFirst_0, ↓e_FrameQueue_removeFirst_1, ↓e_FrameQueue_removeFirst_4, ↓e_FrameQueue_removeFirst_7, ↓e_FrameQueue_removeFirst_8, ↓e_FrameQueue_removeFirst_9, ↓e_FrameQueue_removeFirst_12, ↓e_FrameQueue_removeFirst_13, ↓e_FrameQueue_removeFirst_14, ↓e_FrameQueue_removeFirst_15, ↓e_FrameQueue_removeFirst_16, ↓e_FrameQueue_removeFirst_18, ↓e_FrameQueue_removeFirst_19, ↓e_FrameQueue_removeFirst_22, ↓e_FrameQueue_removeFirst_25, ↓e_FrameQueue_removeFirst_26, ↓e_FrameQueue_removeFirst_29, ↓e_FrameQueue_removeFirst_30, ↓e_FrameQueue_removeFirst_31, ↓e_FrameQueue_removeFirst_32, ↓e_FrameQueue_removeFirst_33, ↓e_FrameQueue_removeFirst_36, ↓e_FrameQueue_removeFirst_37, ↓e_FrameQueue_removeFirst_38, ↓e_FrameQueue_removeFirst_39, ↓e_FrameQueue_removeFirst_42, ↓e_FrameQueue_removeFirst_45, ↓e_FrameQueue_removeFirst_46, ↓e_FrameQueue_removeFirst_47, ↓e_FrameQueue_removeFirst_50, ↓e_FrameQueue_removeFirst_51, ↓e_FrameQueue_removeFirst_52, ↓e_FrameQueue_removeFirst_55, ↓e_FrameQueue_removeFirst_56, ↓e_FrameQueue_removeFirst_59, ↓e_FrameQueue_removeFirst_60, ↓e_FrameQueue_removeFirst_63, ↓e_FrameQueue_removeFirst_64, ↓e_FrameQueue_removeFirst_65, not_true_eq_false, not_false_eq_true, one0, true_or, or_true, eq_self, bI_z, bI_nz, bI_o, b_ft, bI_1, bI_0, ↓kC_l, ↓kC_r, Option.toList_some, Option.toList_none, List.cons_append, List.nil_append, s1_0, s1_1i, s1_1r, s1_1w, s1_1n, s1_s, s2_0, s2_1i, s2_1r, s2_1w, s2_1n, s2_s, gI_sI, gI_sR, gI_sL, gI_sD, gR_sI, gR_sR, gR_sL, gR_sD, gL_sI, gL_sR, gL_sL, gL_sD, gD_sI, gD_sR, gD_sL, gD_sD, isK_sI, isK_sR, isK_sL, isK_sD, inL_sI, inL_sR, inL_sL, inL_sD, nx_sI, nx_sR, nx_sL, nx_sD, kd_sI, kd_sR, kd_sL, kd_sD, ln_sI, ln_sR, ln_sL, ln_sD, ↓reduceIte, c8_n, c8_1, c8_2, c8_3, c8_4, Nat.reduceAdd, k_s S, k_land S, k_nodes S, k_hear S, k_routes S, k_traffic S, k_market S, g_cnt S, r_land S, r_routes S, r_traffic S, r_market S, r_nodes S, r_hear S, r_rland S, r_tland S, r_troutes S, l_nodes S hi8, l_hear S hi8, r_node S hi8, r_queue S hi8, r_set S hi8, r_frames S hi8, r_bits S hi8, k_node S hi8, k_queue S hi8, k_frames S hi8, k_set S hi8, k_bits S hi8, ii_nat (lt31 hi8), hq, e1, h0, (show inL h (7 + 9 * i) 0 = true from l_frames (k := 0) S hi8 (by omega)), (show Int32.toNatClampNeg 0 = 0 by decide), hr0]
    refine (c1 Q).trans ?_
    rw [e_FrameQueue_removeFirst_17]
    simp only [↓e_FrameQueue_removeFirst_0, ↓e_FrameQueue_removeFirst_1, ↓e_FrameQueue_removeFirst_4, ↓e_FrameQueue_removeFirst_7, ↓e_FrameQueue_removeFirst_8, ↓e_FrameQueue_removeFirst_9, ↓e_FrameQueue_removeFirst_12, ↓e_FrameQueue_removeFirst_13, ↓e_FrameQueue_removeFirst_14, ↓e_FrameQueue_removeFirst_15, ↓e_FrameQueue_removeFirst_16, ↓e_FrameQueue_removeFirst_18, ↓e_FrameQueue_removeFirst_19, ↓e_FrameQueue_removeFirst_22, ↓e_FrameQueue_removeFirst_25, ↓e_FrameQueue_removeFirst_26, ↓e_FrameQueue_removeFirst_29, ↓e_FrameQueue_removeFirst_30, ↓e_FrameQueue_removeFirst_31, ↓e_FrameQueue_removeFirst_32, ↓e_FrameQueue_removeFirst_33, ↓e_FrameQueue_removeFirst_36, ↓e_FrameQueue_removeFirst_37, ↓e_FrameQueue_removeFirst_38, ↓e_FrameQueue_removeFirst_39, ↓e_FrameQueue_removeFirst_42, ↓e_FrameQueue_removeFirst_45, ↓e_FrameQueue_removeFirst_46, ↓e_FrameQueue_removeFirst_47, ↓e_FrameQueue_removeFirst_50, ↓e_FrameQueue_removeFirst_51, ↓e_FrameQueue_removeFirst_52, ↓e_FrameQueue_removeFirst_55, ↓e_FrameQueue_removeFirst_56, ↓e_FrameQueue_removeFirst_59, ↓e_FrameQueue_removeFirst_60, ↓e_FrameQueue_removeFirst_63, ↓e_FrameQueue_removeFirst_64, ↓e_FrameQueue_removeFirst_65, not_true_eq_false, not_false_eq_true, one0, true_or, or_true, eq_self, bI_z, bI_nz, bI_o, b_ft, bI_1, bI_0, ↓kC_l, ↓kC_r, Option.toList_some, Option.toList_none, List.cons_append, List.nil_append, s1_0, s1_1i, s1_1r, s1_1w, s1_1n, s1_s, s2_0, s2_1i, s2_1r, s2_1w, s2_1n, s2_s, gI_sI, gI_sR, gI_sL, gI_sD, gR_sI, gR_sR, gR_sL, gR_sD, gL_sI, gL_sR, gL_sL, gL_sD, gD_sI, gD_sR, gD_sL, gD_sD, isK_sI, isK_sR, isK_sL, isK_sD, inL_sI, inL_sR, inL_sL, inL_sD, nx_sI, nx_sR, nx_sL, nx_sD, kd_sI, kd_sR, kd_sL, kd_sD, ln_sI, ln_sR, ln_sL, ln_sD, ↓reduceIte, c8_n, c8_1, c8_2, c8_3, c8_4, Nat.reduceAdd, k_s Sg, k_land Sg, k_nodes Sg, k_hear Sg, k_routes Sg, k_traffic Sg, k_market Sg, g_cnt Sg, r_land Sg, r_routes Sg, r_traffic Sg, r_market Sg, r_nodes Sg, r_hear Sg, r_rland Sg, r_tland Sg, r_troutes Sg, l_nodes Sg hi8, l_hear Sg hi8, r_node Sg hi8, r_queue Sg hi8, r_set Sg hi8, r_frames Sg hi8, r_bits Sg hi8, k_node Sg hi8, k_queue Sg hi8, k_frames Sg hi8, k_set Sg hi8, k_bits Sg hi8, ii_nat (lt31 hi8), hgq, lle_t (show q < 2147483648 by omega), em, l_frames Sg hi8 (show q - 1 < 4 by omega), ii_nat (show q - 1 < 2147483648 by omega), k_frame Sg hi8 hf0, and_self, hh']
  · unfold asPop
    rw [hqq]
    refine V.que hn hi F ⟨?_, ?_, ?_⟩ fun k l hk hl e => ?_
    · rw [asQ_q, ← hh', gI_sR, gI_sI, if_pos ⟨rfl, rfl⟩]
    · rw [asQ_q]; omega
    · intro k hk
      rw [asQ_q] at hk
      rw [asQ_w]
      obtain ⟨f, p1, p2, p3⟩ := hV (k + 1) (by omega)
      refine ⟨f, p1, ?_, fun w hw => ?_⟩
      · rw [hr' k, if_neg (by omega), if_pos (by omega)]; exact p2
      · have e9 : gI h' (8 + 9 * i + f) w = gI h (8 + 9 * i + f) w := by rw [← hh', gI_sR, gI_sI, if_neg (by omega), F1.1 _ _ (fun q => q)]
        rw [e9]
        exact p3 w hw
    · rw [hr' k, hr' l] at e
      have inj := V.2.2.1 i hi8
      by_cases k1 : k = q - 1
      · rw [if_pos k1] at e
        by_cases l1 : l = q - 1
        · omega
        · rw [if_neg l1] at e
          by_cases l2 : l + 1 < q
          · rw [if_pos l2] at e
            have := inj 0 (l + 1) (by omega) (by omega) e
            omega
          · rw [if_neg l2] at e
            have := inj 0 l (by omega) hl e
            omega
      · rw [if_neg k1] at e
        by_cases l1 : l = q - 1
        · rw [if_pos l1] at e
          by_cases k2 : k + 1 < q
          · rw [if_pos k2] at e
            have := inj (k + 1) 0 (by omega) (by omega) e
            omega
          · rw [if_neg k2] at e
            have := inj k 0 hk (by omega) e
            omega
        · rw [if_neg l1] at e
          by_cases k2 : k + 1 < q
          · rw [if_pos k2] at e
            by_cases l2 : l + 1 < q
            · rw [if_pos l2] at e
              have := inj (k + 1) (l + 1) (by omega) (by omega) e
              omega
            · rw [if_neg l2] at e
              have := inj (k + 1) l (by omega) hl e
              omega
          · rw [if_neg k2] at e
            by_cases l2 : l + 1 < q
            · rw [if_pos l2] at e
              have := inj k (l + 1) hk (by omega) e
              omega
            · rw [if_neg l2] at e
              exact inj k l hk hl e
theorem ca_fin (V : CA n h α) (S : Str n h) {i : Nat} (hi : i < n) (hq0 : ¬ α.2.1 i = 0) : ∃ h', (∀ Q, WP Gm j_Node_finishFirst 0 [some (.inr (.inl (some (5 + 9 * i))))] [] h Q = Q (.inl none) h') ∧ Str n h' ∧ CA n h' (asV (asPop α i) i 6 0) := by
  have hn := n8 S
  have hi8 : i < 8 := by omega
  obtain ⟨g, c1, S1, V1⟩ := ca_pop V S hi hq0
  refine ⟨sI g (5 + 9 * i) 6 0, fun Q => ?_, S1.sI _ (by omega), V1.set hn hi (by omega) 0 (fun w => by omega)⟩
  simp only [↓e_Node_finishFirst_0, ↓e_Node_finishFirst_1, ↓e_Node_finishFirst_4, ↓e_Node_finishFirst_7, ↓e_Node_finishFirst_8, ↓e_Node_finishFirst_9, ↓e_Node_finishFirst_12, not_true_eq_false, not_false_eq_true, one0, true_or, or_true, eq_self, bI_z, bI_nz, bI_o, b_ft, bI_1, bI_0, ↓kC_l, ↓kC_r, Option.toList_some, Option.toList_none, List.cons_append, List.nil_append, s1_0, s1_1i, s1_1r, s1_1w, s1_1n, s1_s, s2_0, s2_1i, s2_1r, s2_1w, s2_1n, s2_s, gI_sI, gI_sR, gI_sL, gI_sD, gR_sI, gR_sR, gR_sL, gR_sD, gL_sI, gL_sR, gL_sL, gL_sD, gD_sI, gD_sR, gD_sL, gD_sD, isK_sI, isK_sR, isK_sL, isK_sD, inL_sI, inL_sR, inL_sL, inL_sD, nx_sI, nx_sR, nx_sL, nx_sD, kd_sI, kd_sR, kd_sL, kd_sD, ln_sI, ln_sR, ln_sL, ln_sD, ↓reduceIte, c8_n, c8_1, c8_2, c8_3, c8_4, Nat.reduceAdd, l_nodes S hi8, l_hear S hi8, r_node S hi8, r_queue S hi8, r_set S hi8, r_frames S hi8, r_bits S hi8, k_node S hi8, k_queue S hi8, k_frames S hi8, k_set S hi8, k_bits S hi8, ii_nat (lt31 hi8), c1, k_node S1 hi8]
theorem ca_drop (V : CA n h α) (S : Str n h) {i : Nat} (hi : i < n) (hq0 : ¬ α.2.1 i = 0) : ∃ h', (∀ Q, WP Gm j_Traffic_dropFirst 0 [some (.inr (.inl (some 114))), some (.inr (.inl (some (5 + 9 * i))))] [] h Q = Q (.inl none) h') ∧ Str n h' ∧ CA n h' (drp9 α i) := by
  have hn := n8 S
  have hi8 : i < 8 := by omega
  obtain ⟨g, c1, S1, V1⟩ := ca_fin V S hi hq0
  have e6 : gI g 114 6 = α.1 50 6 := by
    rw [V1.2.2.2.2.1.1 6 (by omega) (by omega), asV_n _ _ (by omega)]
    rfl
  refine ⟨sI g 114 6 (α.1 50 6 + 1), fun Q => ?_, S1.sI _ (by omega), V1.air hn (by omega) _⟩
  simp only [↓e_Traffic_dropFirst_0, ↓e_Traffic_dropFirst_1, ↓e_Traffic_dropFirst_4, ↓e_Traffic_dropFirst_5, ↓e_Traffic_dropFirst_6, ↓e_Traffic_dropFirst_9, ↓e_Traffic_dropFirst_10, ↓e_Traffic_dropFirst_11, ↓e_Traffic_dropFirst_14, not_true_eq_false, not_false_eq_true, one0, true_or, or_true, eq_self, bI_z, bI_nz, bI_o, b_ft, bI_1, bI_0, ↓kC_l, ↓kC_r, Option.toList_some, Option.toList_none, List.cons_append, List.nil_append, s1_0, s1_1i, s1_1r, s1_1w, s1_1n, s1_s, s2_0, s2_1i, s2_1r, s2_1w, s2_1n, s2_s, gI_sI, gI_sR, gI_sL, gI_sD, gR_sI, gR_sR, gR_sL, gR_sD, gL_sI, gL_sR, gL_sL, gL_sD, gD_sI, gD_sR, gD_sL, gD_sD, isK_sI, isK_sR, isK_sL, isK_sD, inL_sI, inL_sR, inL_sL, inL_sD, nx_sI, nx_sR, nx_sL, nx_sD, kd_sI, kd_sR, kd_sL, kd_sD, ln_sI, ln_sR, ln_sL, ln_sD, ↓reduceIte, c8_n, c8_1, c8_2, c8_3, c8_4, Nat.reduceAdd, l_nodes S hi8, l_hear S hi8, r_node S hi8, r_queue S hi8, r_set S hi8, r_frames S hi8, r_bits S hi8, k_node S hi8, k_queue S hi8, k_frames S hi8, k_set S hi8, k_bits S hi8, ii_nat (lt31 hi8), c1, k_traffic S1, e6]
theorem ca_draw (V : CA n h α) (S : Str n h) (x : Int32) (Q : MRes → Hp → Prop) : WP Gm j_Traffic_draw 0 [some (.inr (.inl (some 114))), some (.inl x)] [] h Q = Q (.inl (some (.inl (dr9 α * x / 512)))) (sI h 114 3 (dr9 α)) := by
  have e1 : ¬ (512 : Int32) = 0 := by decide
  have e3 : gI h 114 3 = α.1 50 3 := V.2.2.2.2.1.1 3 (by omega) (by omega)
  have e4 : (109 * α.1 50 3 + 57) - (109 * α.1 50 3 + 57) / 512 * 512 = dr9 α := rfl
  simp only [↓e_Traffic_draw_0, ↓e_Traffic_draw_1, ↓e_Traffic_draw_3, ↓e_Traffic_draw_4, ↓e_Traffic_draw_7, ↓e_Traffic_draw_8, ↓e_Traffic_draw_10, ↓e_Traffic_draw_11, ↓e_Traffic_draw_14, ↓e_Traffic_draw_15, ↓e_Traffic_draw_18, ↓e_Traffic_draw_19, ↓e_Traffic_draw_22, ↓e_Traffic_draw_23, ↓e_Traffic_draw_24, ↓e_Traffic_draw_27, ↓e_Traffic_draw_28, not_true_eq_false, not_false_eq_true, one0, true_or, or_true, eq_self, bI_z, bI_nz, bI_o, b_ft, bI_1, bI_0, ↓kC_l, ↓kC_r, Option.toList_some, Option.toList_none, List.cons_append, List.nil_append, s1_0, s1_1i, s1_1r, s1_1w, s1_1n, s1_s, s2_0, s2_1i, s2_1r, s2_1w, s2_1n, s2_s, gI_sI, gI_sR, gI_sL, gI_sD, gR_sI, gR_sR, gR_sL, gR_sD, gL_sI, gL_sR, gL_sL, gL_sD, gD_sI, gD_sR, gD_sL, gD_sD, isK_sI, isK_sR, isK_sL, isK_sD, inL_sI, inL_sR, inL_sL, inL_sD, nx_sI, nx_sR, nx_sL, nx_sD, kd_sI, kd_sR, kd_sL, kd_sD, ln_sI, ln_sR, ln_sL, ln_sD, ↓reduceIte, c8_n, c8_1, c8_2, c8_3, c8_4, Nat.reduceAdd, k_s S, k_land S, k_nodes S, k_hear S, k_routes S, k_traffic S, k_market S, g_cnt S, r_land S, r_routes S, r_traffic S, r_market S, r_nodes S, r_hear S, r_rland S, r_tland S, r_troutes S, e1, e3, e4, Nat.reduceEqDiff, and_false, and_self]
theorem ca_wait (V : CA n h α) (S : Str n h) {i : Nat} (hi : i < n) (x : Int32) : ∃ h', (∀ Q, WP Gm j_Traffic_tryAgain 50 [some (.inr (.inl (some 114))), some (.inr (.inl (some (5 + 9 * i))))] [.inl x, .inr (.inl (some (5 + 9 * i)))] h Q = Q (.inl none) h') ∧ Str n h' ∧ CA n h' (wai9 α i x) := by
  have hn := n8 S
  have hi8 : i < 8 := by omega
  have e12 : gI h (5 + 9 * i) 12 = α.1 i 12 := V.1 i hi 12 (by omega) (by omega)
  have e13 : gI h (5 + 9 * i) 13 = α.1 i 13 := V.1 i hi 13 (by omega) (by omega)
  refine ⟨_, fun Q => ?_, ((S.sI _ (by omega)).sI _ (by omega)).sI _ (by omega), ((V.set (f := 5) hn hi (by omega) x (fun w => by omega)).set (f := 12) hn hi (by omega) (α.1 i 12 + x) (fun w => by omega)).set (f := 13) hn hi (by omega) (α.1 i 13 + 1) (fun w => by omega)⟩
  simp only [↓e_Traffic_tryAgain_0, ↓e_Traffic_tryAgain_1, ↓e_Traffic_tryAgain_2, ↓e_Traffic_tryAgain_5, ↓e_Traffic_tryAgain_6, ↓e_Traffic_tryAgain_7, ↓e_Traffic_tryAgain_10, ↓e_Traffic_tryAgain_11, ↓e_Traffic_tryAgain_14, ↓e_Traffic_tryAgain_15, ↓e_Traffic_tryAgain_18, ↓e_Traffic_tryAgain_19, ↓e_Traffic_tryAgain_20, ↓e_Traffic_tryAgain_23, ↓e_Traffic_tryAgain_26, ↓e_Traffic_tryAgain_27, ↓e_Traffic_tryAgain_28, ↓e_Traffic_tryAgain_31, ↓e_Traffic_tryAgain_34, ↓e_Traffic_tryAgain_35, ↓e_Traffic_tryAgain_38, ↓e_Traffic_tryAgain_39, ↓e_Traffic_tryAgain_40, ↓e_Traffic_tryAgain_41, ↓e_Traffic_tryAgain_44, ↓e_Traffic_tryAgain_45, ↓e_Traffic_tryAgain_46, ↓e_Traffic_tryAgain_47, ↓e_Traffic_tryAgain_50, ↓e_Traffic_tryAgain_53, not_true_eq_false, not_false_eq_true, one0, true_or, or_true, eq_self, bI_z, bI_nz, bI_o, b_ft, bI_1, bI_0, ↓kC_l, ↓kC_r, Option.toList_some, Option.toList_none, List.cons_append, List.nil_append, s1_0, s1_1i, s1_1r, s1_1w, s1_1n, s1_s, s2_0, s2_1i, s2_1r, s2_1w, s2_1n, s2_s, gI_sI, gI_sR, gI_sL, gI_sD, gR_sI, gR_sR, gR_sL, gR_sD, gL_sI, gL_sR, gL_sL, gL_sD, gD_sI, gD_sR, gD_sL, gD_sD, isK_sI, isK_sR, isK_sL, isK_sD, inL_sI, inL_sR, inL_sL, inL_sD, nx_sI, nx_sR, nx_sL, nx_sD, kd_sI, kd_sR, kd_sL, kd_sD, ln_sI, ln_sR, ln_sL, ln_sD, ↓reduceIte, c8_n, c8_1, c8_2, c8_3, c8_4, Nat.reduceAdd, l_nodes S hi8, l_hear S hi8, r_node S hi8, r_queue S hi8, r_set S hi8, r_frames S hi8, r_bits S hi8, k_node S hi8, k_queue S hi8, k_frames S hi8, k_set S hi8, k_bits S hi8, ii_nat (lt31 hi8), q_waitAgain _ S hi8, e12, e13]
theorem ca_try (V : CA n h α) (S : Str n h) {i t : Nat} (hi : i < n) (ht : t ≤ 4) (h6 : α.1 i 6 = ii t) (hq0 : ¬ α.2.1 i = 0) : ∃ h', (∀ Q, WP Gm j_Traffic_tryAgain 0 [some (.inr (.inl (some 114))), some (.inr (.inl (some (5 + 9 * i))))] [] h Q = Q (.inl none) h') ∧ Str n h' ∧ CA n h' (try9 α i) := by
  have hn := n8 S
  have hi8 : i < 8 := by omega
  have t2 : gI h (5 + 9 * i) 6 = ii t := (V.1 i hi 6 (by omega) (by omega)).trans h6
  have e3 : gI h (5 + 9 * i) 3 = α.1 i 3 := V.1 i hi 3 (by omega) (by omega)
  generalize hg : sI h (5 + 9 * i) 6 (ii (t + 1)) = g
  have Sg : Str n g := by rw [← hg]; exact S.sI _ (by omega)
  have Vg : CA n g (asV α i 6 (ii (t + 1))) := by rw [← hg]; exact V.set hn hi (by omega) _ (fun w => by omega)
  have g6 : gI g (5 + 9 * i) 6 = ii (t + 1) := by rw [← hg, gI_sI, if_pos ⟨rfl, rfl⟩]
  have g3 : gI g (5 + 9 * i) 3 = α.1 i 3 := by rw [← hg, gI_sI, if_neg (fun w => absurd w.2 (by decide))]; exact e3
  have e5 : (ii (t + 1) < (5 : Int32)) = (t + 1 < 5) := ii_lt (j := 5) (by omega) (by omega)
  have e5' : (ii (t + 1) = (5 : Int32)) = (t + 1 = 5) := ii_inj (j := 5) (by omega) (by omega)
  have ed : dr9 (asV α i 6 (ii (t + 1))) = dr9 α := dr_congr (asV_n _ _ fun w => by omega)
  unfold try9
  rw [h6, ii_succ]
  by_cases h5 : t + 1 = 5
  · rw [if_pos (by rw [e5']; exact h5)]
    obtain ⟨h', r1, r2, r3⟩ := ca_drop Vg Sg hi hq0
    refine ⟨h', fun Q => ?_, r2, r3⟩
    simp only [↓e_Traffic_tryAgain_0, ↓e_Traffic_tryAgain_1, ↓e_Traffic_tryAgain_2, ↓e_Traffic_tryAgain_5, ↓e_Traffic_tryAgain_6, ↓e_Traffic_tryAgain_7, ↓e_Traffic_tryAgain_10, ↓e_Traffic_tryAgain_11, ↓e_Traffic_tryAgain_14, ↓e_Traffic_tryAgain_15, ↓e_Traffic_tryAgain_18, ↓e_Traffic_tryAgain_19, ↓e_Traffic_tryAgain_20, ↓e_Traffic_tryAgain_23, ↓e_Traffic_tryAgain_26, ↓e_Traffic_tryAgain_27, ↓e_Traffic_tryAgain_28, ↓e_Traffic_tryAgain_31, ↓e_Traffic_tryAgain_34, ↓e_Traffic_tryAgain_35, ↓e_Traffic_tryAgain_38, ↓e_Traffic_tryAgain_39, ↓e_Traffic_tryAgain_40, ↓e_Traffic_tryAgain_41, ↓e_Traffic_tryAgain_44, ↓e_Traffic_tryAgain_45, ↓e_Traffic_tryAgain_46, ↓e_Traffic_tryAgain_47, ↓e_Traffic_tryAgain_50, ↓e_Traffic_tryAgain_53, not_true_eq_false, not_false_eq_true, one0, true_or, or_true, eq_self, bI_z, bI_nz, bI_o, b_ft, bI_1, bI_0, ↓kC_l, ↓kC_r, Option.toList_some, Option.toList_none, List.cons_append, List.nil_append, s1_0, s1_1i, s1_1r, s1_1w, s1_1n, s1_s, s2_0, s2_1i, s2_1r, s2_1w, s2_1n, s2_s, gI_sI, gI_sR, gI_sL, gI_sD, gR_sI, gR_sR, gR_sL, gR_sD, gL_sI, gL_sR, gL_sL, gL_sD, gD_sI, gD_sR, gD_sL, gD_sD, isK_sI, isK_sR, isK_sL, isK_sD, inL_sI, inL_sR, inL_sL, inL_sD, nx_sI, nx_sR, nx_sL, nx_sD, kd_sI, kd_sR, kd_sL, kd_sD, ln_sI, ln_sR, ln_sL, ln_sD, ↓reduceIte, c8_n, c8_1, c8_2, c8_3, c8_4, Nat.reduceAdd, k_s S, k_land S, k_nodes S, k_hear S, k_routes S, k_traffic S, k_market S, g_cnt S, r_land S, r_routes S, r_traffic S, r_market S, r_nodes S, r_hear S, r_rland S, r_tland S, r_troutes S, l_nodes S hi8, l_hear S hi8, r_node S hi8, r_queue S hi8, r_set S hi8, r_frames S hi8, r_bits S hi8, k_node S hi8, k_queue S hi8, k_frames S hi8, k_set S hi8, k_bits S hi8, ii_nat (lt31 hi8), t2, ii_succ, and_self, hg, g6, k_s Sg, k_land Sg, k_nodes Sg, k_hear Sg, k_routes Sg, k_traffic Sg, k_market Sg, g_cnt Sg, r_land Sg, r_routes Sg, r_traffic Sg, r_market Sg, r_nodes Sg, r_hear Sg, r_rland Sg, r_tland Sg, r_troutes Sg, l_nodes Sg hi8, l_hear Sg hi8, r_node Sg hi8, r_queue Sg hi8, r_set Sg hi8, r_frames Sg hi8, r_bits Sg hi8, k_node Sg hi8, k_queue Sg hi8, k_frames Sg hi8, k_set Sg hi8, k_bits Sg hi8, ii_nat (lt31 hi8), e5, (show ¬ t + 1 < 5 by omega), r1]
  · rw [if_neg (by rw [e5']; exact h5)]
    have h5' : t + 1 < 5 := by omega
    by_cases hch : α.1 i 3 = 0
    · rw [if_pos hch]
      have Vd := Vg.air (k := 3) hn (by omega) (dr9 α)
      have Sd : Str n (sI g 114 3 (dr9 α)) := Sg.sI _ (by omega)
      obtain ⟨h', r1, r2, r3⟩ := ca_wait Vd Sd hi (dr9 α * (1 <<< (ii (t + 1 + 1) &&& 31)) / 512)
      have hd := fun Q => ca_draw Vg Sg (1 <<< (ii (t + 1 + 1) &&& 31)) Q
      rw [ed] at hd
      refine ⟨h', fun Q => ?_, r2, ?_⟩
      · rw [← r1 Q]
        simp only [↓e_Traffic_tryAgain_0, ↓e_Traffic_tryAgain_1, ↓e_Traffic_tryAgain_2, ↓e_Traffic_tryAgain_5, ↓e_Traffic_tryAgain_6, ↓e_Traffic_tryAgain_7, ↓e_Traffic_tryAgain_10, ↓e_Traffic_tryAgain_11, ↓e_Traffic_tryAgain_14, ↓e_Traffic_tryAgain_15, ↓e_Traffic_tryAgain_18, ↓e_Traffic_tryAgain_19, ↓e_Traffic_tryAgain_20, ↓e_Traffic_tryAgain_23, ↓e_Traffic_tryAgain_26, ↓e_Traffic_tryAgain_27, ↓e_Traffic_tryAgain_28, ↓e_Traffic_tryAgain_31, ↓e_Traffic_tryAgain_34, ↓e_Traffic_tryAgain_35, ↓e_Traffic_tryAgain_38, ↓e_Traffic_tryAgain_39, ↓e_Traffic_tryAgain_40, ↓e_Traffic_tryAgain_41, ↓e_Traffic_tryAgain_44, ↓e_Traffic_tryAgain_45, ↓e_Traffic_tryAgain_46, ↓e_Traffic_tryAgain_47, ↓e_Traffic_tryAgain_53, not_true_eq_false, not_false_eq_true, one0, true_or, or_true, eq_self, bI_z, bI_nz, bI_o, b_ft, bI_1, bI_0, ↓kC_l, ↓kC_r, Option.toList_some, Option.toList_none, List.cons_append, List.nil_append, s1_0, s1_1i, s1_1r, s1_1w, s1_1n, s1_s, s2_0, s2_1i, s2_1r, s2_1w, s2_1n, s2_s, gI_sI, gI_sR, gI_sL, gI_sD, gR_sI, gR_sR, gR_sL, gR_sD, gL_sI, gL_sR, gL_sL, gL_sD, gD_sI, gD_sR, gD_sL, gD_sD, isK_sI, isK_sR, isK_sL, isK_sD, inL_sI, inL_sR, inL_sL, inL_sD, nx_sI, nx_sR, nx_sL, nx_sD, kd_sI, kd_sR, kd_sL, kd_sD, ln_sI, ln_sR, ln_sL, ln_sD, ↓reduceIte, c8_n, c8_1, c8_2, c8_3, c8_4, Nat.reduceAdd, k_s S, k_land S, k_nodes S, k_hear S, k_routes S, k_traffic S, k_market S, g_cnt S, r_land S, r_routes S, r_traffic S, r_market S, r_nodes S, r_hear S, r_rland S, r_tland S, r_troutes S, l_nodes S hi8, l_hear S hi8, r_node S hi8, r_queue S hi8, r_set S hi8, r_frames S hi8, r_bits S hi8, k_node S hi8, k_queue S hi8, k_frames S hi8, k_set S hi8, k_bits S hi8, ii_nat (lt31 hi8), t2, ii_succ, and_self, hg, g6, k_s Sg, k_land Sg, k_nodes Sg, k_hear Sg, k_routes Sg, k_traffic Sg, k_market Sg, g_cnt Sg, r_land Sg, r_routes Sg, r_traffic Sg, r_market Sg, r_nodes Sg, r_hear Sg, r_rland Sg, r_tland Sg, r_troutes Sg, l_nodes Sg hi8, l_hear Sg hi8, r_node Sg hi8, r_queue Sg hi8, r_set Sg hi8, r_frames Sg hi8, r_bits Sg hi8, k_node Sg hi8, k_queue Sg hi8, k_frames Sg hi8, k_set Sg hi8, k_bits Sg hi8, ii_nat (lt31 hi8), e5, h5', g3, hch, hd]
      · rw [ii_succ]; exact r3
    · rw [if_neg hch]
      obtain ⟨h', r1, r2, r3⟩ := ca_wait Vg Sg hi 0
      refine ⟨h', fun Q => ?_, r2, r3⟩
      rw [← r1 Q]
      simp only [↓e_Traffic_tryAgain_0, ↓e_Traffic_tryAgain_1, ↓e_Traffic_tryAgain_2, ↓e_Traffic_tryAgain_5, ↓e_Traffic_tryAgain_6, ↓e_Traffic_tryAgain_7, ↓e_Traffic_tryAgain_10, ↓e_Traffic_tryAgain_11, ↓e_Traffic_tryAgain_14, ↓e_Traffic_tryAgain_15, ↓e_Traffic_tryAgain_18, ↓e_Traffic_tryAgain_19, ↓e_Traffic_tryAgain_20, ↓e_Traffic_tryAgain_23, ↓e_Traffic_tryAgain_26, ↓e_Traffic_tryAgain_27, ↓e_Traffic_tryAgain_28, ↓e_Traffic_tryAgain_31, ↓e_Traffic_tryAgain_34, ↓e_Traffic_tryAgain_35, ↓e_Traffic_tryAgain_38, ↓e_Traffic_tryAgain_39, ↓e_Traffic_tryAgain_40, ↓e_Traffic_tryAgain_41, ↓e_Traffic_tryAgain_44, ↓e_Traffic_tryAgain_45, ↓e_Traffic_tryAgain_46, ↓e_Traffic_tryAgain_47, ↓e_Traffic_tryAgain_53, not_true_eq_false, not_false_eq_true, one0, true_or, or_true, eq_self, bI_z, bI_nz, bI_o, b_ft, bI_1, bI_0, ↓kC_l, ↓kC_r, Option.toList_some, Option.toList_none, List.cons_append, List.nil_append, s1_0, s1_1i, s1_1r, s1_1w, s1_1n, s1_s, s2_0, s2_1i, s2_1r, s2_1w, s2_1n, s2_s, gI_sI, gI_sR, gI_sL, gI_sD, gR_sI, gR_sR, gR_sL, gR_sD, gL_sI, gL_sR, gL_sL, gL_sD, gD_sI, gD_sR, gD_sL, gD_sD, isK_sI, isK_sR, isK_sL, isK_sD, inL_sI, inL_sR, inL_sL, inL_sD, nx_sI, nx_sR, nx_sL, nx_sD, kd_sI, kd_sR, kd_sL, kd_sD, ln_sI, ln_sR, ln_sL, ln_sD, ↓reduceIte, c8_n, c8_1, c8_2, c8_3, c8_4, Nat.reduceAdd, k_s S, k_land S, k_nodes S, k_hear S, k_routes S, k_traffic S, k_market S, g_cnt S, r_land S, r_routes S, r_traffic S, r_market S, r_nodes S, r_hear S, r_rland S, r_tland S, r_troutes S, l_nodes S hi8, l_hear S hi8, r_node S hi8, r_queue S hi8, r_set S hi8, r_frames S hi8, r_bits S hi8, k_node S hi8, k_queue S hi8, k_frames S hi8, k_set S hi8, k_bits S hi8, ii_nat (lt31 hi8), t2, ii_succ, and_self, hg, g6, k_s Sg, k_land Sg, k_nodes Sg, k_hear Sg, k_routes Sg, k_traffic Sg, k_market Sg, g_cnt Sg, r_land Sg, r_routes Sg, r_traffic Sg, r_market Sg, r_nodes Sg, r_hear Sg, r_rland Sg, r_tland Sg, r_troutes Sg, l_nodes Sg hi8, l_hear Sg hi8, r_node Sg hi8, r_queue Sg hi8, r_set Sg hi8, r_frames Sg hi8, r_bits Sg hi8, k_node Sg hi8, k_queue Sg hi8, k_frames Sg hi8, k_set Sg hi8, k_bits Sg hi8, ii_nat (lt31 hi8), e5, h5', g3, hch]
/-- the country's receive at j, a frame of values w -/
theorem ca_recv (V : CA n h α) (S : Str n h) {j F : Nat} {w : Nat → Int32} (hj : j < n) (hF : isK h F kc_Frame = true) (hw : ∀ k, k < 5 → gI h F k = w k) (hv : FV9 n w) : ∃ h', (∀ Q, WP Gm j_Traffic_receive 0 [some (.inr (.inl (some 114))), some (.inl (ii j)), some (.inr (.inl (some F)))] [] h Q = Q (.inl none) h') ∧ Str n h' ∧ CA n h' (rcv9 α j w) := by
  have hn := n8 S
  have hj8 : j < 8 := by omega
  obtain ⟨a, t, b, w0, ha, w1, ht, w3, hb⟩ := hv
  have ha8 : a < 8 := by omega
  have g0 : gI h F 0 = ii a := (hw 0 (by omega)).trans w0
  have g1 : gI h F 1 = ii t := (hw 1 (by omega)).trans w1
  have g3 : gI h F 3 = ii b := (hw 3 (by omega)).trans w3
  have et : (ii t = ii j) = (t = j) := ii_inj (by omega) (by omega)
  unfold rcv9
  rw [w1]
  by_cases e : t = j
  · subst e
    rw [if_pos rfl]
    unfold arv9
    rw [w0, w3, tn_ii (show a < 2147483648 by omega), tn_ii (show b < 2147483648 by omega)]
    have em : mb h a b = α.2.2.2 a b := V.2.2.2.2.2.1 a b ha hb
    cases hx : α.2.2.2 a b with
    | true =>
      rw [hx] at em
      rw [if_pos rfl]
      have e5 : gI h 114 5 = α.1 50 5 := V.2.2.2.2.1.1 5 (by omega) (by omega)
      refine ⟨sI h 114 5 (α.1 50 5 + 1), fun Q => ?_, S.sI _ (by omega), V.air hn (by omega) _⟩
      simp only [↓e_Traffic_receive_0, ↓e_Traffic_receive_1, ↓e_Traffic_receive_4, ↓e_Traffic_receive_5, ↓e_Traffic_receive_8, ↓e_Traffic_receive_9, ↓e_Traffic_receive_10, ↓e_Traffic_receive_13, ↓e_Traffic_receive_14, ↓e_Traffic_receive_15, ↓e_Traffic_receive_18, ↓e_Traffic_receive_20, ↓e_Traffic_receive_23, ↓e_Traffic_receive_24, ↓e_Traffic_receive_27, ↓e_Traffic_receive_30, ↓e_Traffic_receive_31, ↓e_Traffic_receive_32, ↓e_Traffic_receive_35, ↓e_Traffic_receive_36, ↓e_Traffic_receive_39, ↓e_Traffic_receive_42, ↓e_Traffic_receive_43, ↓e_Traffic_receive_44, ↓e_Traffic_receive_47, ↓e_Traffic_receive_48, ↓e_Traffic_receive_49, ↓e_Traffic_receive_52, ↓e_Traffic_arrive_0, ↓e_Traffic_arrive_1, ↓e_Traffic_arrive_4, ↓e_Traffic_arrive_5, ↓e_Traffic_arrive_8, ↓e_Traffic_arrive_11, ↓e_Traffic_arrive_14, ↓e_Traffic_arrive_15, ↓e_Traffic_arrive_16, ↓e_Traffic_arrive_19, ↓e_Traffic_arrive_22, ↓e_Traffic_arrive_23, ↓e_Traffic_arrive_26, ↓e_Traffic_arrive_27, ↓e_Traffic_arrive_30, ↓e_Traffic_arrive_31, ↓e_Traffic_arrive_32, ↓e_Traffic_arrive_33, ↓e_Traffic_arrive_36, ↓e_Traffic_arrive_39, ↓e_Traffic_arrive_42, ↓e_Traffic_arrive_43, ↓e_Traffic_arrive_44, ↓e_Traffic_arrive_47, ↓e_Traffic_arrive_48, ↓e_Traffic_arrive_49, ↓e_Traffic_arrive_52, ↓e_Traffic_arrive_55, ↓e_Traffic_arrive_56, ↓e_Traffic_arrive_57, ↓e_Traffic_arrive_60, ↓e_Traffic_arrive_63, ↓e_Traffic_arrive_64, ↓e_Traffic_arrive_65, ↓e_Traffic_arrive_68, ↓e_Traffic_arrive_69, ↓e_Traffic_arrive_70, ↓e_Traffic_arrive_73, not_true_eq_false, not_false_eq_true, one0, true_or, or_true, eq_self, bI_z, bI_nz, bI_o, b_ft, bI_1, bI_0, ↓kC_l, ↓kC_r, Option.toList_some, Option.toList_none, List.cons_append, List.nil_append, s1_0, s1_1i, s1_1r, s1_1w, s1_1n, s1_s, s2_0, s2_1i, s2_1r, s2_1w, s2_1n, s2_s, gI_sI, gI_sR, gI_sL, gI_sD, gR_sI, gR_sR, gR_sL, gR_sD, gL_sI, gL_sR, gL_sL, gL_sD, gD_sI, gD_sR, gD_sL, gD_sD, isK_sI, isK_sR, isK_sL, isK_sD, inL_sI, inL_sR, inL_sL, inL_sD, nx_sI, nx_sR, nx_sL, nx_sD, kd_sI, kd_sR, kd_sL, kd_sD, ln_sI, ln_sR, ln_sL, ln_sD, ↓reduceIte, c8_n, c8_1, c8_2, c8_3, c8_4, Nat.reduceAdd, k_s S, k_land S, k_nodes S, k_hear S, k_routes S, k_traffic S, k_market S, g_cnt S, r_land S, r_routes S, r_traffic S, r_market S, r_nodes S, r_hear S, r_rland S, r_tland S, r_troutes S, l_nodes S ha8, l_hear S ha8, r_node S ha8, r_queue S ha8, r_set S ha8, r_frames S ha8, r_bits S ha8, k_node S ha8, k_queue S ha8, k_frames S ha8, k_set S ha8, k_bits S ha8, ii_nat (lt31 ha8), hF, g0, g1, g3, q_isNode _ S, isNode_ii S ha8, ha, decide_true, q_has _ S ha8 hb, em, Bool.true_eq_false, e5]
    | false =>
      rw [hx] at em
      rw [if_neg (by decide)]
      have V1 := V.arr (i := a) hb
      have e4 : gI (putS h a b) 114 4 = α.1 50 4 := V.2.2.2.2.1.1 4 (by omega) (by omega)
      have S1 : Str n (putS h a b) := S
      refine ⟨sI (putS h a b) 114 4 (α.1 50 4 + 1), fun Q => ?_, S1.sI _ (by omega), V1.air hn (by omega) _⟩
      have St : isK (putS h a b) 114 kc_Traffic = true := k_traffic S
      simp only [↓e_Traffic_receive_0, ↓e_Traffic_receive_1, ↓e_Traffic_receive_4, ↓e_Traffic_receive_5, ↓e_Traffic_receive_8, ↓e_Traffic_receive_9, ↓e_Traffic_receive_10, ↓e_Traffic_receive_13, ↓e_Traffic_receive_14, ↓e_Traffic_receive_15, ↓e_Traffic_receive_18, ↓e_Traffic_receive_20, ↓e_Traffic_receive_23, ↓e_Traffic_receive_24, ↓e_Traffic_receive_27, ↓e_Traffic_receive_30, ↓e_Traffic_receive_31, ↓e_Traffic_receive_32, ↓e_Traffic_receive_35, ↓e_Traffic_receive_36, ↓e_Traffic_receive_39, ↓e_Traffic_receive_42, ↓e_Traffic_receive_43, ↓e_Traffic_receive_44, ↓e_Traffic_receive_47, ↓e_Traffic_receive_48, ↓e_Traffic_receive_49, ↓e_Traffic_receive_52, ↓e_Traffic_arrive_0, ↓e_Traffic_arrive_1, ↓e_Traffic_arrive_4, ↓e_Traffic_arrive_5, ↓e_Traffic_arrive_8, ↓e_Traffic_arrive_11, ↓e_Traffic_arrive_14, ↓e_Traffic_arrive_15, ↓e_Traffic_arrive_16, ↓e_Traffic_arrive_19, ↓e_Traffic_arrive_22, ↓e_Traffic_arrive_23, ↓e_Traffic_arrive_26, ↓e_Traffic_arrive_27, ↓e_Traffic_arrive_30, ↓e_Traffic_arrive_31, ↓e_Traffic_arrive_32, ↓e_Traffic_arrive_33, ↓e_Traffic_arrive_36, ↓e_Traffic_arrive_39, ↓e_Traffic_arrive_42, ↓e_Traffic_arrive_43, ↓e_Traffic_arrive_44, ↓e_Traffic_arrive_47, ↓e_Traffic_arrive_48, ↓e_Traffic_arrive_49, ↓e_Traffic_arrive_52, ↓e_Traffic_arrive_55, ↓e_Traffic_arrive_56, ↓e_Traffic_arrive_57, ↓e_Traffic_arrive_60, ↓e_Traffic_arrive_63, ↓e_Traffic_arrive_64, ↓e_Traffic_arrive_65, ↓e_Traffic_arrive_68, ↓e_Traffic_arrive_69, ↓e_Traffic_arrive_70, ↓e_Traffic_arrive_73, not_true_eq_false, not_false_eq_true, one0, true_or, or_true, eq_self, bI_z, bI_nz, bI_o, b_ft, bI_1, bI_0, ↓kC_l, ↓kC_r, Option.toList_some, Option.toList_none, List.cons_append, List.nil_append, s1_0, s1_1i, s1_1r, s1_1w, s1_1n, s1_s, s2_0, s2_1i, s2_1r, s2_1w, s2_1n, s2_s, gI_sI, gI_sR, gI_sL, gI_sD, gR_sI, gR_sR, gR_sL, gR_sD, gL_sI, gL_sR, gL_sL, gL_sD, gD_sI, gD_sR, gD_sL, gD_sD, isK_sI, isK_sR, isK_sL, isK_sD, inL_sI, inL_sR, inL_sL, inL_sD, nx_sI, nx_sR, nx_sL, nx_sD, kd_sI, kd_sR, kd_sL, kd_sD, ln_sI, ln_sR, ln_sL, ln_sD, ↓reduceIte, c8_n, c8_1, c8_2, c8_3, c8_4, Nat.reduceAdd, k_s S, k_land S, k_nodes S, k_hear S, k_routes S, k_traffic S, k_market S, g_cnt S, r_land S, r_routes S, r_traffic S, r_market S, r_nodes S, r_hear S, r_rland S, r_tland S, r_troutes S, l_nodes S ha8, l_hear S ha8, r_node S ha8, r_queue S ha8, r_set S ha8, r_frames S ha8, r_bits S ha8, k_node S ha8, k_queue S ha8, k_frames S ha8, k_set S ha8, k_bits S ha8, ii_nat (lt31 ha8), hF, g0, g1, g3, q_isNode _ S, isNode_ii S ha8, ha, decide_true, q_has _ S ha8 hb, em, q_put _ S ha8 hb, St, e4]
  · rw [if_neg (by rw [et]; exact e)]
    have hne : (ii t = ii j) = False := by rw [et]; exact eq_false e
    have e6 : gI h 114 6 = α.1 50 6 := V.2.2.2.2.1.1 6 (by omega) (by omega)
    have g4 : gI h F 4 = w 4 := hw 4 (by omega)
    by_cases h7 : 7 ≤ w 4
    · rw [if_pos (Or.inl h7)]
      refine ⟨sI h 114 6 (α.1 50 6 + 1), fun Q => ?_, S.sI _ (by omega), V.air hn (by omega) _⟩
      simp only [↓e_Traffic_receive_0, ↓e_Traffic_receive_1, ↓e_Traffic_receive_4, ↓e_Traffic_receive_5, ↓e_Traffic_receive_8, ↓e_Traffic_receive_9, ↓e_Traffic_receive_10, ↓e_Traffic_receive_13, ↓e_Traffic_receive_14, ↓e_Traffic_receive_15, ↓e_Traffic_receive_18, ↓e_Traffic_receive_20, ↓e_Traffic_receive_23, ↓e_Traffic_receive_24, ↓e_Traffic_receive_27, ↓e_Traffic_receive_30, ↓e_Traffic_receive_31, ↓e_Traffic_receive_32, ↓e_Traffic_receive_35, ↓e_Traffic_receive_36, ↓e_Traffic_receive_39, ↓e_Traffic_receive_42, ↓e_Traffic_receive_43, ↓e_Traffic_receive_44, ↓e_Traffic_receive_47, ↓e_Traffic_receive_48, ↓e_Traffic_receive_49, ↓e_Traffic_receive_52, not_true_eq_false, not_false_eq_true, one0, true_or, or_true, eq_self, bI_z, bI_nz, bI_o, b_ft, bI_1, bI_0, ↓kC_l, ↓kC_r, Option.toList_some, Option.toList_none, List.cons_append, List.nil_append, s1_0, s1_1i, s1_1r, s1_1w, s1_1n, s1_s, s2_0, s2_1i, s2_1r, s2_1w, s2_1n, s2_s, gI_sI, gI_sR, gI_sL, gI_sD, gR_sI, gR_sR, gR_sL, gR_sD, gL_sI, gL_sR, gL_sL, gL_sD, gD_sI, gD_sR, gD_sL, gD_sD, isK_sI, isK_sR, isK_sL, isK_sD, inL_sI, inL_sR, inL_sL, inL_sD, nx_sI, nx_sR, nx_sL, nx_sD, kd_sI, kd_sR, kd_sL, kd_sD, ln_sI, ln_sR, ln_sL, ln_sD, ↓reduceIte, c8_n, c8_1, c8_2, c8_3, c8_4, Nat.reduceAdd, k_s S, k_land S, k_nodes S, k_hear S, k_routes S, k_traffic S, k_market S, g_cnt S, r_land S, r_routes S, r_traffic S, r_market S, r_nodes S, r_hear S, r_rland S, r_tland S, r_troutes S, hF, g1, hne, g4, h7, e6]
    · rcases ca_push V S hj (gI h F 0) (gI h F 1) (gI h F 2) (gI h F 3) (w 4 + 1) with ⟨h4, r1⟩ | ⟨h4, u, r1, r2, r3⟩
      · rw [if_pos (Or.inr h4)]
        refine ⟨sI h 114 6 (α.1 50 6 + 1), fun Q => ?_, S.sI _ (by omega), V.air hn (by omega) _⟩
        simp only [↓e_Traffic_receive_0, ↓e_Traffic_receive_1, ↓e_Traffic_receive_4, ↓e_Traffic_receive_5, ↓e_Traffic_receive_8, ↓e_Traffic_receive_9, ↓e_Traffic_receive_10, ↓e_Traffic_receive_13, ↓e_Traffic_receive_14, ↓e_Traffic_receive_15, ↓e_Traffic_receive_18, ↓e_Traffic_receive_20, ↓e_Traffic_receive_23, ↓e_Traffic_receive_24, ↓e_Traffic_receive_27, ↓e_Traffic_receive_30, ↓e_Traffic_receive_31, ↓e_Traffic_receive_32, ↓e_Traffic_receive_35, ↓e_Traffic_receive_36, ↓e_Traffic_receive_39, ↓e_Traffic_receive_42, ↓e_Traffic_receive_43, ↓e_Traffic_receive_44, ↓e_Traffic_receive_47, ↓e_Traffic_receive_48, ↓e_Traffic_receive_49, ↓e_Traffic_receive_52, ↓e_Traffic_pushCopy_0, ↓e_Traffic_pushCopy_1, ↓e_Traffic_pushCopy_2, ↓e_Traffic_pushCopy_5, ↓e_Traffic_pushCopy_6, ↓e_Traffic_pushCopy_9, ↓e_Traffic_pushCopy_10, ↓e_Traffic_pushCopy_13, ↓e_Traffic_pushCopy_14, ↓e_Traffic_pushCopy_17, ↓e_Traffic_pushCopy_18, ↓e_Traffic_pushCopy_21, ↓e_Traffic_pushCopy_22, ↓e_Traffic_pushCopy_23, ↓e_Traffic_pushCopy_26, not_true_eq_false, not_false_eq_true, one0, true_or, or_true, eq_self, bI_z, bI_nz, bI_o, b_ft, bI_1, bI_0, ↓kC_l, ↓kC_r, Option.toList_some, Option.toList_none, List.cons_append, List.nil_append, s1_0, s1_1i, s1_1r, s1_1w, s1_1n, s1_s, s2_0, s2_1i, s2_1r, s2_1w, s2_1n, s2_s, gI_sI, gI_sR, gI_sL, gI_sD, gR_sI, gR_sR, gR_sL, gR_sD, gL_sI, gL_sR, gL_sL, gL_sD, gD_sI, gD_sR, gD_sL, gD_sD, isK_sI, isK_sR, isK_sL, isK_sD, inL_sI, inL_sR, inL_sL, inL_sD, nx_sI, nx_sR, nx_sL, nx_sD, kd_sI, kd_sR, kd_sL, kd_sD, ln_sI, ln_sR, ln_sL, ln_sD, ↓reduceIte, c8_n, c8_1, c8_2, c8_3, c8_4, Nat.reduceAdd, k_s S, k_land S, k_nodes S, k_hear S, k_routes S, k_traffic S, k_market S, g_cnt S, r_land S, r_routes S, r_traffic S, r_market S, r_nodes S, r_hear S, r_rland S, r_tland S, r_troutes S, l_nodes S hj8, l_hear S hj8, r_node S hj8, r_queue S hj8, r_set S hj8, r_frames S hj8, r_bits S hj8, k_node S hj8, k_queue S hj8, k_frames S hj8, k_set S hj8, k_bits S hj8, ii_nat (lt31 hj8), hF, hne, g4, h7, g1 ▸ r1, g1, r1, e6]
      · rw [if_neg (fun q => by rcases q with q | q; exact h7 q; omega)]
        refine ⟨u, fun Q => ?_, r2, r3 (psh9 w) ?_ ?_ ?_ ?_ rfl⟩
        · have r1' := r1
          rw [g1] at r1'
          simp only [↓e_Traffic_receive_0, ↓e_Traffic_receive_1, ↓e_Traffic_receive_4, ↓e_Traffic_receive_5, ↓e_Traffic_receive_8, ↓e_Traffic_receive_9, ↓e_Traffic_receive_10, ↓e_Traffic_receive_13, ↓e_Traffic_receive_14, ↓e_Traffic_receive_15, ↓e_Traffic_receive_18, ↓e_Traffic_receive_20, ↓e_Traffic_receive_23, ↓e_Traffic_receive_24, ↓e_Traffic_receive_27, ↓e_Traffic_receive_30, ↓e_Traffic_receive_31, ↓e_Traffic_receive_32, ↓e_Traffic_receive_35, ↓e_Traffic_receive_36, ↓e_Traffic_receive_39, ↓e_Traffic_receive_42, ↓e_Traffic_receive_43, ↓e_Traffic_receive_44, ↓e_Traffic_receive_47, ↓e_Traffic_receive_48, ↓e_Traffic_receive_49, ↓e_Traffic_receive_52, ↓e_Traffic_pushCopy_0, ↓e_Traffic_pushCopy_1, ↓e_Traffic_pushCopy_2, ↓e_Traffic_pushCopy_5, ↓e_Traffic_pushCopy_6, ↓e_Traffic_pushCopy_9, ↓e_Traffic_pushCopy_10, ↓e_Traffic_pushCopy_13, ↓e_Traffic_pushCopy_14, ↓e_Traffic_pushCopy_17, ↓e_Traffic_pushCopy_18, ↓e_Traffic_pushCopy_21, ↓e_Traffic_pushCopy_22, ↓e_Traffic_pushCopy_23, ↓e_Traffic_pushCopy_26, not_true_eq_false, not_false_eq_true, one0, true_or, or_true, eq_self, bI_z, bI_nz, bI_o, b_ft, bI_1, bI_0, ↓kC_l, ↓kC_r, Option.toList_some, Option.toList_none, List.cons_append, List.nil_append, s1_0, s1_1i, s1_1r, s1_1w, s1_1n, s1_s, s2_0, s2_1i, s2_1r, s2_1w, s2_1n, s2_s, gI_sI, gI_sR, gI_sL, gI_sD, gR_sI, gR_sR, gR_sL, gR_sD, gL_sI, gL_sR, gL_sL, gL_sD, gD_sI, gD_sR, gD_sL, gD_sD, isK_sI, isK_sR, isK_sL, isK_sD, inL_sI, inL_sR, inL_sL, inL_sD, nx_sI, nx_sR, nx_sL, nx_sD, kd_sI, kd_sR, kd_sL, kd_sD, ln_sI, ln_sR, ln_sL, ln_sD, ↓reduceIte, c8_n, c8_1, c8_2, c8_3, c8_4, Nat.reduceAdd, k_s S, k_land S, k_nodes S, k_hear S, k_routes S, k_traffic S, k_market S, g_cnt S, r_land S, r_routes S, r_traffic S, r_market S, r_nodes S, r_hear S, r_rland S, r_tland S, r_troutes S, l_nodes S hj8, l_hear S hj8, r_node S hj8, r_queue S hj8, r_set S hj8, r_frames S hj8, r_bits S hj8, k_node S hj8, k_queue S hj8, k_frames S hj8, k_set S hj8, k_bits S hj8, ii_nat (lt31 hj8), hF, hne, g4, h7, g1, r1', Bool.true_eq_false]
        · exact (hw 0 (by omega)).symm
        · exact (hw 1 (by omega)).symm
        · exact (hw 2 (by omega)).symm
        · exact (hw 3 (by omega)).symm
theorem rcv_c8 (α : As) (i j : Nat) (v : Int32) (w : Nat → Int32) (hi : i ≠ 50) : rcv9 (asV α i 8 v) j w = asV (rcv9 α j w) i 8 v := by
  have cm : ∀ (β : As) (k : Nat) (x : Int32), asV (asV β i 8 v) 50 k x = asV (asV β 50 k x) i 8 v := fun β k x => by
    refine Prod.ext (funext fun a => funext fun b => ?_) rfl
    show (if a = 50 ∧ b = k then x else if a = i ∧ b = 8 then v else β.1 a b) = (if a = i ∧ b = 8 then v else if a = 50 ∧ b = k then x else β.1 a b)
    by_cases e : a = 50 ∧ b = k
    · rw [if_pos e, if_neg (by omega), if_pos e]
    · rw [if_neg e, if_neg e]
  have rd : ∀ k, (asV α i 8 v).1 50 k = α.1 50 k := fun k => asV_n _ _ (by omega)
  unfold rcv9
  split
  · unfold arv9
    by_cases e : α.2.2.2 (tn9 (w 0)) (tn9 (w 3)) = true
    · rw [if_pos e, if_pos (show (asV α i 8 v).2.2.2 (tn9 (w 0)) (tn9 (w 3)) = true from e), rd, cm]
    · rw [if_neg e, if_neg (show ¬ (asV α i 8 v).2.2.2 (tn9 (w 0)) (tn9 (w 3)) = true from e), rd]
      exact cm (asR α _ _) _ _
  · by_cases e : 7 ≤ w 4 ∨ α.2.1 j = 4
    · rw [if_pos e, if_pos (show 7 ≤ w 4 ∨ (asV α i 8 v).2.1 j = 4 from e), rd, cm]
    · rw [if_neg e, if_neg (show ¬ (7 ≤ w 4 ∨ (asV α i 8 v).2.1 j = 4) from e)]
      rfl
/-- a sending's end -/
theorem ca_end (V : CA n h α) (S : Str n h) {i x t : Nat} (hi : i < n) (hx : x < n) (h8 : α.1 i 8 = ii x) (ht : t ≤ 4) (h6 : α.1 i 6 = ii t) (hq0 : ¬ α.2.1 i = 0) (hv : FV9 n (α.2.2.1 i 0)) : ∃ h', (∀ Q, WP Gm j_Traffic_end 0 [some (.inr (.inl (some 114))), some (.inl (ii i)), none, none, none] [] h Q = Q (.inl none) h') ∧ Str n h' ∧ CA n h' (end9 α i) := by
  have hn := n8 S
  have hi8 : i < 8 := by omega
  have hx8 : x < 8 := by omega
  have g8 : gI h (5 + 9 * i) 8 = ii x := (V.1 i hi 8 (by omega) (by omega)).trans h8
  generalize hg : sI h (5 + 9 * i) 8 (-1) = g
  have Sg : Str n g := by rw [← hg]; exact S.sI _ (by omega)
  have Vg : CA n g (asV α i 8 (-1)) := by rw [← hg]; exact V.set hn hi (by omega) _ (fun w => by omega)
  obtain ⟨q1, q2, q3⟩ := Vg.2.1 i hi
  have hq1 : gI g (6 + 9 * i) 1 = ii (α.2.1 i) := q1
  have hq2 : α.2.1 i ≤ 4 := q2
  have h0 : 0 < α.2.1 i := by omega
  obtain ⟨f, f1, f2, f3⟩ := q3 0 h0
  have hF : isK g (8 + 9 * i + f) kc_Frame = true := k_frame Sg hi8 f1
  have g9 : gI g (5 + 9 * i) 9 = α.1 i 9 := (Vg.1 i hi 9 (by omega) (by omega)).trans (asV_n _ _ (by omega))
  have pre : ∀ Q, WP Gm j_Traffic_end 0 [some (.inr (.inl (some 114))), some (.inl (ii i)), none, none, none] [] h Q = WP Gm j_Traffic_end 47 [some (.inr (.inl (some 114))), some (.inl (ii i)), some (.inr (.inl (some (5 + 9 * i)))), some (.inl (ii x)), some (.inr (.inl (some (8 + 9 * i + f))))] [] g Q := by
    intro Q
    simp only [↓e_Traffic_end_0, ↓e_Traffic_end_1, ↓e_Traffic_end_4, ↓e_Traffic_end_7, ↓e_Traffic_end_8, ↓e_Traffic_end_9, ↓e_Traffic_end_10, ↓e_Traffic_end_11, ↓e_Traffic_end_14, ↓e_Traffic_end_15, ↓e_Traffic_end_16, ↓e_Traffic_end_17, ↓e_Traffic_end_20, ↓e_Traffic_end_21, ↓e_Traffic_end_24, ↓e_Traffic_end_25, ↓e_Traffic_end_28, ↓e_Traffic_end_30, ↓e_Traffic_end_32, ↓e_Traffic_end_35, ↓e_Traffic_end_36, ↓e_Traffic_end_39, ↓e_Traffic_end_40, ↓e_Traffic_end_43, ↓e_Traffic_end_46, ↓e_Traffic_end_48, ↓e_Traffic_end_51, ↓e_Traffic_end_54, ↓e_Traffic_end_55, ↓e_Traffic_end_56, ↓e_Traffic_end_58, ↓e_Traffic_end_61, ↓e_Traffic_end_62, ↓e_Traffic_end_65, ↓e_Traffic_end_68, ↓e_Traffic_end_69, ↓e_Traffic_end_72, ↓e_Traffic_end_73, ↓e_Traffic_end_74, ↓e_Traffic_end_77, ↓e_Traffic_end_80, ↓e_Traffic_end_81, ↓e_Traffic_end_84, ↓e_Traffic_end_87, ↓e_Traffic_end_88, ↓e_Traffic_end_89, ↓e_Traffic_end_92, not_true_eq_false, not_false_eq_true, one0, true_or, or_true, eq_self, bI_z, bI_nz, bI_o, b_ft, bI_1, bI_0, ↓kC_l, ↓kC_r, Option.toList_some, Option.toList_none, List.cons_append, List.nil_append, s1_0, s1_1i, s1_1r, s1_1w, s1_1n, s1_s, s2_0, s2_1i, s2_1r, s2_1w, s2_1n, s2_s, gI_sI, gI_sR, gI_sL, gI_sD, gR_sI, gR_sR, gR_sL, gR_sD, gL_sI, gL_sR, gL_sL, gL_sD, gD_sI, gD_sR, gD_sL, gD_sD, isK_sI, isK_sR, isK_sL, isK_sD, inL_sI, inL_sR, inL_sL, inL_sD, nx_sI, nx_sR, nx_sL, nx_sD, kd_sI, kd_sR, kd_sL, kd_sD, ln_sI, ln_sR, ln_sL, ln_sD, ↓reduceIte, c8_n, c8_1, c8_2, c8_3, c8_4, Nat.reduceAdd, k_s S, k_land S, k_nodes S, k_hear S, k_routes S, k_traffic S, k_market S, g_cnt S, r_land S, r_routes S, r_traffic S, r_market S, r_nodes S, r_hear S, r_rland S, r_tland S, r_troutes S, l_nodes S hi8, l_hear S hi8, r_node S hi8, r_queue S hi8, r_set S hi8, r_frames S hi8, r_bits S hi8, k_node S hi8, k_queue S hi8, k_frames S hi8, k_set S hi8, k_bits S hi8, ii_nat (lt31 hi8), g8, hg, k_s Sg, k_land Sg, k_nodes Sg, k_hear Sg, k_routes Sg, k_traffic Sg, k_market Sg, g_cnt Sg, r_land Sg, r_routes Sg, r_traffic Sg, r_market Sg, r_nodes Sg, r_hear Sg, r_rland Sg, r_tland Sg, r_troutes Sg, l_nodes Sg hi8, l_hear Sg hi8, r_node Sg hi8, r_queue Sg hi8, r_set Sg hi8, r_frames Sg hi8, r_bits Sg hi8, k_node Sg hi8, k_queue Sg hi8, k_frames Sg hi8, k_set Sg hi8, k_bits Sg hi8, ii_nat (lt31 hi8), q_at0 _ Sg hi8 hq1 hq2, h0, f2, Option.isNone_some, Bool.false_eq_true, q_isNode _ Sg, isNode_ii Sg hx8, hx, decide_true]
  unfold end9
  rw [h8, tn_ii (show x < 2147483648 by omega)]
  by_cases h9 : α.1 i 9 = 0
  · rw [if_pos h9]
    obtain ⟨u, r1, r2, r3⟩ := ca_try Vg Sg hi ht ((asV_n _ _ (by omega)).trans h6) hq0
    refine ⟨u, fun Q => ?_, r2, r3⟩
    rw [pre]
    simp only [↓e_Traffic_end_0, ↓e_Traffic_end_1, ↓e_Traffic_end_4, ↓e_Traffic_end_7, ↓e_Traffic_end_8, ↓e_Traffic_end_9, ↓e_Traffic_end_10, ↓e_Traffic_end_11, ↓e_Traffic_end_14, ↓e_Traffic_end_15, ↓e_Traffic_end_16, ↓e_Traffic_end_17, ↓e_Traffic_end_20, ↓e_Traffic_end_21, ↓e_Traffic_end_24, ↓e_Traffic_end_25, ↓e_Traffic_end_28, ↓e_Traffic_end_30, ↓e_Traffic_end_32, ↓e_Traffic_end_35, ↓e_Traffic_end_36, ↓e_Traffic_end_39, ↓e_Traffic_end_40, ↓e_Traffic_end_43, ↓e_Traffic_end_46, ↓e_Traffic_end_47, ↓e_Traffic_end_48, ↓e_Traffic_end_51, ↓e_Traffic_end_54, ↓e_Traffic_end_55, ↓e_Traffic_end_56, ↓e_Traffic_end_58, ↓e_Traffic_end_61, ↓e_Traffic_end_62, ↓e_Traffic_end_65, ↓e_Traffic_end_68, ↓e_Traffic_end_69, ↓e_Traffic_end_72, ↓e_Traffic_end_73, ↓e_Traffic_end_74, ↓e_Traffic_end_77, ↓e_Traffic_end_80, ↓e_Traffic_end_81, ↓e_Traffic_end_84, ↓e_Traffic_end_87, ↓e_Traffic_end_88, ↓e_Traffic_end_89, ↓e_Traffic_end_92, not_true_eq_false, not_false_eq_true, one0, true_or, or_true, eq_self, bI_z, bI_nz, bI_o, b_ft, bI_1, bI_0, ↓kC_l, ↓kC_r, Option.toList_some, Option.toList_none, List.cons_append, List.nil_append, s1_0, s1_1i, s1_1r, s1_1w, s1_1n, s1_s, s2_0, s2_1i, s2_1r, s2_1w, s2_1n, s2_s, gI_sI, gI_sR, gI_sL, gI_sD, gR_sI, gR_sR, gR_sL, gR_sD, gL_sI, gL_sR, gL_sL, gL_sD, gD_sI, gD_sR, gD_sL, gD_sD, isK_sI, isK_sR, isK_sL, isK_sD, inL_sI, inL_sR, inL_sL, inL_sD, nx_sI, nx_sR, nx_sL, nx_sD, kd_sI, kd_sR, kd_sL, kd_sD, ln_sI, ln_sR, ln_sL, ln_sD, ↓reduceIte, c8_n, c8_1, c8_2, c8_3, c8_4, Nat.reduceAdd, k_s Sg, k_land Sg, k_nodes Sg, k_hear Sg, k_routes Sg, k_traffic Sg, k_market Sg, g_cnt Sg, r_land Sg, r_routes Sg, r_traffic Sg, r_market Sg, r_nodes Sg, r_hear Sg, r_rland Sg, r_tland Sg, r_troutes Sg, l_nodes Sg hi8, l_hear Sg hi8, r_node Sg hi8, r_queue Sg hi8, r_set Sg hi8, r_frames Sg hi8, r_bits Sg hi8, k_node Sg hi8, k_queue Sg hi8, k_frames Sg hi8, k_set Sg hi8, k_bits Sg hi8, ii_nat (lt31 hi8), g9, h9, r1]
  · rw [if_neg h9]
    obtain ⟨u, r1, r2, r3⟩ := ca_recv Vg Sg hx hF f3 hv
    have ec := rcv_c8 α i x (-1) (α.2.2.1 i 0) (by omega)
    have r3' : CA n u (asV (rcv9 α x (α.2.2.1 i 0)) i 8 (-1)) := by rw [← ec]; exact r3
    have u9 : gI u (5 + 9 * i) 9 = α.1 i 9 := (r3'.1 i hi 9 (by omega) (by omega)).trans ((asV_n _ _ (by omega)).trans (rcv_V _ _ _ (by omega)))
    have eh : chF n u i x = hr9 α i x := (ca_ch r3' hn hi hx).trans (hr_congr fun a k ha hk => (asV_n _ _ (by omega)).trans (rcv_V _ _ _ (by omega)))
    have uq : ¬ (rcv9 α x (α.2.2.1 i 0)).2.1 i = 0 := by
      have := rcv_q α x i (α.2.2.1 i 0)
      omega
    unfold fin9
    cases hh : hr9 α i x with
    | true =>
      rw [hh] at eh
      rw [if_pos rfl]
      obtain ⟨z, z1, z2, z3⟩ := ca_fin r3' r2 hi uq
      refine ⟨z, fun Q => ?_, z2, z3⟩
      rw [pre]
      simp only [↓e_Traffic_end_0, ↓e_Traffic_end_1, ↓e_Traffic_end_4, ↓e_Traffic_end_7, ↓e_Traffic_end_8, ↓e_Traffic_end_9, ↓e_Traffic_end_10, ↓e_Traffic_end_11, ↓e_Traffic_end_14, ↓e_Traffic_end_15, ↓e_Traffic_end_16, ↓e_Traffic_end_17, ↓e_Traffic_end_20, ↓e_Traffic_end_21, ↓e_Traffic_end_24, ↓e_Traffic_end_25, ↓e_Traffic_end_28, ↓e_Traffic_end_30, ↓e_Traffic_end_32, ↓e_Traffic_end_35, ↓e_Traffic_end_36, ↓e_Traffic_end_39, ↓e_Traffic_end_40, ↓e_Traffic_end_43, ↓e_Traffic_end_46, ↓e_Traffic_end_47, ↓e_Traffic_end_48, ↓e_Traffic_end_51, ↓e_Traffic_end_54, ↓e_Traffic_end_55, ↓e_Traffic_end_56, ↓e_Traffic_end_58, ↓e_Traffic_end_61, ↓e_Traffic_end_62, ↓e_Traffic_end_65, ↓e_Traffic_end_68, ↓e_Traffic_end_69, ↓e_Traffic_end_72, ↓e_Traffic_end_73, ↓e_Traffic_end_74, ↓e_Traffic_end_77, ↓e_Traffic_end_80, ↓e_Traffic_end_81, ↓e_Traffic_end_84, ↓e_Traffic_end_87, ↓e_Traffic_end_88, ↓e_Traffic_end_89, ↓e_Traffic_end_92, not_true_eq_false, not_false_eq_true, one0, true_or, or_true, eq_self, bI_z, bI_nz, bI_o, b_ft, bI_1, bI_0, ↓kC_l, ↓kC_r, Option.toList_some, Option.toList_none, List.cons_append, List.nil_append, s1_0, s1_1i, s1_1r, s1_1w, s1_1n, s1_s, s2_0, s2_1i, s2_1r, s2_1w, s2_1n, s2_s, gI_sI, gI_sR, gI_sL, gI_sD, gR_sI, gR_sR, gR_sL, gR_sD, gL_sI, gL_sR, gL_sL, gL_sD, gD_sI, gD_sR, gD_sL, gD_sD, isK_sI, isK_sR, isK_sL, isK_sD, inL_sI, inL_sR, inL_sL, inL_sD, nx_sI, nx_sR, nx_sL, nx_sD, kd_sI, kd_sR, kd_sL, kd_sD, ln_sI, ln_sR, ln_sL, ln_sD, ↓reduceIte, c8_n, c8_1, c8_2, c8_3, c8_4, Nat.reduceAdd, k_s Sg, k_land Sg, k_nodes Sg, k_hear Sg, k_routes Sg, k_traffic Sg, k_market Sg, g_cnt Sg, r_land Sg, r_routes Sg, r_traffic Sg, r_market Sg, r_nodes Sg, r_hear Sg, r_rland Sg, r_tland Sg, r_troutes Sg, l_nodes Sg hi8, l_hear Sg hi8, r_node Sg hi8, r_queue Sg hi8, r_set Sg hi8, r_frames Sg hi8, r_bits Sg hi8, k_node Sg hi8, k_queue Sg hi8, k_frames Sg hi8, k_set Sg hi8, k_bits Sg hi8, ii_nat (lt31 hi8), g9, h9, r1, k_s r2, k_land r2, k_nodes r2, k_hear r2, k_routes r2, k_traffic r2, k_market r2, g_cnt r2, r_land r2, r_routes r2, r_traffic r2, r_market r2, r_nodes r2, r_hear r2, r_rland r2, r_tland r2, r_troutes r2, l_nodes r2 hi8, l_hear r2 hi8, r_node r2 hi8, r_queue r2 hi8, r_set r2 hi8, r_frames r2 hi8, r_bits r2 hi8, k_node r2 hi8, k_queue r2 hi8, k_frames r2 hi8, k_set r2 hi8, k_bits r2 hi8, ii_nat (lt31 hi8), u9, q_canHear _ r2 hi8 hx8, eh, Bool.true_eq_false, z1]
    | false =>
      rw [hh] at eh
      rw [if_neg (by decide)]
      obtain ⟨z, z1, z2, z3⟩ := ca_try r3' r2 hi ht ((asV_n _ _ (by omega)).trans ((rcv_V _ _ _ (by omega)).trans h6)) uq
      refine ⟨z, fun Q => ?_, z2, z3⟩
      rw [pre]
      simp only [↓e_Traffic_end_0, ↓e_Traffic_end_1, ↓e_Traffic_end_4, ↓e_Traffic_end_7, ↓e_Traffic_end_8, ↓e_Traffic_end_9, ↓e_Traffic_end_10, ↓e_Traffic_end_11, ↓e_Traffic_end_14, ↓e_Traffic_end_15, ↓e_Traffic_end_16, ↓e_Traffic_end_17, ↓e_Traffic_end_20, ↓e_Traffic_end_21, ↓e_Traffic_end_24, ↓e_Traffic_end_25, ↓e_Traffic_end_28, ↓e_Traffic_end_30, ↓e_Traffic_end_32, ↓e_Traffic_end_35, ↓e_Traffic_end_36, ↓e_Traffic_end_39, ↓e_Traffic_end_40, ↓e_Traffic_end_43, ↓e_Traffic_end_46, ↓e_Traffic_end_47, ↓e_Traffic_end_48, ↓e_Traffic_end_51, ↓e_Traffic_end_54, ↓e_Traffic_end_55, ↓e_Traffic_end_56, ↓e_Traffic_end_58, ↓e_Traffic_end_61, ↓e_Traffic_end_62, ↓e_Traffic_end_65, ↓e_Traffic_end_68, ↓e_Traffic_end_69, ↓e_Traffic_end_72, ↓e_Traffic_end_73, ↓e_Traffic_end_74, ↓e_Traffic_end_77, ↓e_Traffic_end_80, ↓e_Traffic_end_81, ↓e_Traffic_end_84, ↓e_Traffic_end_87, ↓e_Traffic_end_88, ↓e_Traffic_end_89, ↓e_Traffic_end_92, not_true_eq_false, not_false_eq_true, one0, true_or, or_true, eq_self, bI_z, bI_nz, bI_o, b_ft, bI_1, bI_0, ↓kC_l, ↓kC_r, Option.toList_some, Option.toList_none, List.cons_append, List.nil_append, s1_0, s1_1i, s1_1r, s1_1w, s1_1n, s1_s, s2_0, s2_1i, s2_1r, s2_1w, s2_1n, s2_s, gI_sI, gI_sR, gI_sL, gI_sD, gR_sI, gR_sR, gR_sL, gR_sD, gL_sI, gL_sR, gL_sL, gL_sD, gD_sI, gD_sR, gD_sL, gD_sD, isK_sI, isK_sR, isK_sL, isK_sD, inL_sI, inL_sR, inL_sL, inL_sD, nx_sI, nx_sR, nx_sL, nx_sD, kd_sI, kd_sR, kd_sL, kd_sD, ln_sI, ln_sR, ln_sL, ln_sD, ↓reduceIte, c8_n, c8_1, c8_2, c8_3, c8_4, Nat.reduceAdd, k_s Sg, k_land Sg, k_nodes Sg, k_hear Sg, k_routes Sg, k_traffic Sg, k_market Sg, g_cnt Sg, r_land Sg, r_routes Sg, r_traffic Sg, r_market Sg, r_nodes Sg, r_hear Sg, r_rland Sg, r_tland Sg, r_troutes Sg, l_nodes Sg hi8, l_hear Sg hi8, r_node Sg hi8, r_queue Sg hi8, r_set Sg hi8, r_frames Sg hi8, r_bits Sg hi8, k_node Sg hi8, k_queue Sg hi8, k_frames Sg hi8, k_set Sg hi8, k_bits Sg hi8, ii_nat (lt31 hi8), g9, h9, r1, k_s r2, k_land r2, k_nodes r2, k_hear r2, k_routes r2, k_traffic r2, k_market r2, g_cnt r2, r_land r2, r_routes r2, r_traffic r2, r_market r2, r_nodes r2, r_hear r2, r_rland r2, r_tland r2, r_troutes r2, l_nodes r2 hi8, l_hear r2 hi8, r_node r2 hi8, r_queue r2 hi8, r_set r2 hi8, r_frames r2 hi8, r_bits r2 hi8, k_node r2 hi8, k_queue r2 hi8, k_frames r2 hi8, k_set r2 hi8, k_bits r2 hi8, ii_nat (lt31 hi8), u9, q_canHear _ r2 hi8 hx8, eh, z1]
end XC2
