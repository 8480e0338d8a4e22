/-! ptraffic: what holds of nodes and traffic; the small methods -/
def NI (n : Nat) (h : Hp) (i : Nat) : Prop := QV n h i ∧ (∃ t, t ≤ 4 ∧ gI h (5 + 9 * i) 6 = ii t) ∧ (∃ tc, tc ≤ 3 ∧ gI h (5 + 9 * i) 7 = ii tc ∧ (tc ≠ 0 → ¬ gI h (6 + 9 * i) 1 = 0)) ∧ (∃ s, s ≤ 512 ∧ gI h (5 + 9 * i) 14 = ii s ∧ ∀ k, s ≤ k → k < 512 → mb h i k = false)
def DS (n : Nat) (h : Hp) : Prop := gI h 114 4 = ii (sumN (fun i => cnt (mb h i) 512) n)
def TI (n : Nat) (h : Hp) : Prop := (∀ i, i < n → NI n h i) ∧ (∃ lk, lk < 512 ∧ gI h 114 3 = ii lk) ∧ DS n h
def SI (n : Nat) (h : Hp) : Prop := SH h ∧ ∃ c, Rt h c ∧ RI n h c ∧ RI n h (174 - c)
def wTr : Nat → Nat → Prop := fun a k => (a = 114 ∧ 2 ≤ k) ∨ (5 ≤ a ∧ a < 77)
def wTrR : Nat → Nat → Prop := fun a k => 5 ≤ a ∧ a < 77 ∧ (a - 5) % 9 = 2
def wTrL (n : Nat) : Nat → Nat → Prop := fun a k => 5 ≤ a ∧ a < 5 + 9 * n ∧ (a - 5) % 9 = 8
def wTn (n : Nat) : Nat → Nat → Prop := fun a k => (a = 114 ∧ 2 ≤ k) ∨ (5 ≤ a ∧ a < 5 + 9 * n)
section TR
variable {n : Nat} {h h' : Hp}
theorem Vf.fr {f : Nat} (V : Vf n h f) (e1 : ∀ k, gI h' f k = gI h f k) (e2 : ∀ x, x < n → gI h' (5 + 9 * x) 14 = gI h (5 + 9 * x) 14) : Vf n h' f := by
  obtain ⟨a1, a2, a3, a4, a5, b1, b2, b3, b4, b5, b6, b7, b8, b9, b10, b11⟩ := V
  exact ⟨a1, a2, a3, a4, a5, by rw [e1]; exact b1, b2, by rw [e1]; exact b3, b4, by rw [e1]; exact b5, b6, b7, by rw [e1]; exact b8, by rw [e2 _ b2]; exact b9, b10, b11⟩
theorem QV.fr {i : Nat} (V : QV n h i) (e1 : ∀ a k, 8 + 9 * i ≤ a → a < 12 + 9 * i → gI h' a k = gI h a k) (e2 : ∀ x, x < n → gI h' (5 + 9 * x) 14 = gI h (5 + 9 * x) 14) (e3 : gI h' (6 + 9 * i) 1 = gI h (6 + 9 * i) 1) (e4 : ∀ k, gR h' (7 + 9 * i) k = gR h (7 + 9 * i) k) : QV n h' i := by
  obtain ⟨q, q1, q2, q3⟩ := V
  refine ⟨q, q1, by rw [e3]; exact q2, fun k hk => ?_⟩
  obtain ⟨f, f1, f2, f3⟩ := q3 k hk
  exact ⟨f, f1, by rw [e4]; exact f2, f3.fr (fun k => e1 _ k (by omega) (by omega)) e2⟩
theorem NI.fr {i : Nat} (V : NI n h i) (hi : i < n) (e1 : ∀ a k, 8 + 9 * i ≤ a → a < 12 + 9 * i → gI h' a k = gI h a k) (e2 : ∀ x, x < n → gI h' (5 + 9 * x) 14 = gI h (5 + 9 * x) 14) (e3 : gI h' (6 + 9 * i) 1 = gI h (6 + 9 * i) 1) (e4 : ∀ k, gR h' (7 + 9 * i) k = gR h (7 + 9 * i) k)
    (e5 : ∀ k, k = 6 ∨ k = 7 → gI h' (5 + 9 * i) k = gI h (5 + 9 * i) k) (e6 : ∀ k, gL h' (13 + 9 * i) k = gL h (13 + 9 * i) k) : NI n h' i := by
  obtain ⟨V1, V2, V3, V4⟩ := V
  refine ⟨V1.fr e1 e2 e3 e4, by rw [e5 6 (Or.inl rfl)]; exact V2, by rw [e5 7 (Or.inr rfl), e3]; exact V3, ?_⟩
  obtain ⟨s, s1, s2, s3⟩ := V4
  exact ⟨s, s1, by rw [e2 i hi]; exact s2, fun k h1 h2 => by unfold mb; rw [e6]; exact s3 k h1 h2⟩
theorem SI.fr {WI WR WL : Nat → Nat → Prop} (H : SI n h) (F : Fr WI WR WL h h') (hI : ∀ a k, WI a k → wTr a k) (hR : ∀ a k, WR a k → wTrR a k) : SI n h' := by
  obtain ⟨H1, c, R, I1, I2⟩ := H
  have hcc := R.1
  have e : ∀ a k, ¬ wTr a k → gI h' a k = gI h a k := fun a k q => F.1 a k (fun w => q (hI a k w))
  exact ⟨H1.fr fun k => e _ _ (by unfold wTr; omega), c, R.fr fun k => F.2.1 _ _ (fun w => by have := hR _ _ w; unfold wTrR at this; omega), I1.fr (fun a b ha hb => e _ _ (by unfold wTr; omega)) (fun a b ha hb => e _ _ (by unfold wTr; omega)), I2.fr (fun a b ha hb => e _ _ (by unfold wTr; omega)) (fun a b ha hb => e _ _ (by unfold wTr; omega))⟩
theorem DS.fr (H : DS n h) (e1 : gI h' 114 4 = gI h 114 4) (e2 : ∀ i k, i < n → gL h' (13 + 9 * i) k = gL h (13 + 9 * i) k) : DS n h' := by
  unfold DS
  rw [e1, H]
  exact congrArg ii (sumN_congr fun i hi => cnt_congr fun k hk => by unfold mb; rw [e2 i _ hi])
theorem q_senders (Q : MRes → Hp → Prop) (S : Str n h) : WP Gm j_Traffic_senders 0 [some (.inr (.inl (some 114))), none, none] [] h Q = Q (.inl (some (.inl (upto (fun k s => if decide (0 < gI h (5 + 9 * k) 7) = true then s ||| bitN k else s) n 0 0)))) h := by
  have step := loop0 (fun k s => WP Gm j_Traffic_senders 4 [some (.inr (.inl (some 114))), some (.inl s), some (.inl (ii k))] [] h Q) (fun k s => if decide (0 < gI h (5 + 9 * k) 7) = true then s ||| bitN k else s) n
    (fun k s hk => by
      have hk8 := lt_8 (n8 S) hk
      rw [e_Traffic_senders_4]
      simp only [↓e_Traffic_senders_0, ↓e_Traffic_senders_1, ↓e_Traffic_senders_2, ↓e_Traffic_senders_3, ↓e_Traffic_senders_5, ↓e_Traffic_senders_6, ↓e_Traffic_senders_9, ↓e_Traffic_senders_12, ↓e_Traffic_senders_15, ↓e_Traffic_senders_16, ↓e_Traffic_senders_19, ↓e_Traffic_senders_22, ↓e_Traffic_senders_23, ↓e_Traffic_senders_24, ↓e_Traffic_senders_27, ↓e_Traffic_senders_30, ↓e_Traffic_senders_31, ↓e_Traffic_senders_32, ↓e_Traffic_senders_33, ↓e_Traffic_senders_34, ↓e_Traffic_senders_35, ↓e_Traffic_senders_36, ↓e_Traffic_senders_39, ↓e_Traffic_senders_42, ↓e_Traffic_senders_43, not_true_eq_false, not_false_eq_true, one0, true_or, or_true, eq_self, bI_z, bI_nz, bI_o, b_ft, bI_1, bI_0, ↓kC_l, ↓kC_r, Option.toList_some, Option.toList_none, List.cons_append, List.nil_append, s1_0, s1_1i, s1_1r, s1_1w, s1_1n, s1_s, s2_0, s2_1i, s2_1r, s2_1w, s2_1n, s2_s, gI_sI, gI_sR, gI_sL, gI_sD, gR_sI, gR_sR, gR_sL, gR_sD, gL_sI, gL_sR, gL_sL, gL_sD, gD_sI, gD_sR, gD_sL, gD_sD, isK_sI, isK_sR, isK_sL, isK_sD, inL_sI, inL_sR, inL_sL, inL_sD, nx_sI, nx_sR, nx_sL, nx_sD, kd_sI, kd_sR, kd_sL, kd_sD, ln_sI, ln_sR, ln_sL, ln_sD, ↓reduceIte, c8_n, c8_1, c8_2, c8_3, c8_4, Nat.reduceAdd, k_s S, k_land S, k_nodes S, k_hear S, k_routes S, k_traffic S, k_market S, g_cnt S, r_land S, r_routes S, r_traffic S, r_market S, r_nodes S, r_hear S, r_rland S, r_tland S, r_troutes S, l_nodes S hk8, l_hear S hk8, r_node S hk8, r_queue S hk8, r_set S hk8, r_frames S hk8, r_bits S hk8, k_node S hk8, k_queue S hk8, k_frames S hk8, k_set S hk8, k_bits S hk8, ii_nat (lt31 hk8), le_f (n8 S) hk, q_isSending _ S hk8, ii_succ]
      cases decide (0 < gI h (5 + 9 * k) 7) <;> rfl) n 0 0 (by omega)
  simp only [↓e_Traffic_senders_0, ↓e_Traffic_senders_1, ↓e_Traffic_senders_2, ↓e_Traffic_senders_3, ↓e_Traffic_senders_5, ↓e_Traffic_senders_6, ↓e_Traffic_senders_9, ↓e_Traffic_senders_12, ↓e_Traffic_senders_15, ↓e_Traffic_senders_16, ↓e_Traffic_senders_19, ↓e_Traffic_senders_22, ↓e_Traffic_senders_23, ↓e_Traffic_senders_24, ↓e_Traffic_senders_27, ↓e_Traffic_senders_30, ↓e_Traffic_senders_31, ↓e_Traffic_senders_32, ↓e_Traffic_senders_33, ↓e_Traffic_senders_34, ↓e_Traffic_senders_35, ↓e_Traffic_senders_36, ↓e_Traffic_senders_39, ↓e_Traffic_senders_42, ↓e_Traffic_senders_43, not_true_eq_false, not_false_eq_true, one0, true_or, or_true, eq_self, bI_z, bI_nz, bI_o, b_ft, bI_1, bI_0, ↓kC_l, ↓kC_r, Option.toList_some, Option.toList_none, List.cons_append, List.nil_append, s1_0, s1_1i, s1_1r, s1_1w, s1_1n, s1_s, s2_0, s2_1i, s2_1r, s2_1w, s2_1n, s2_s, gI_sI, gI_sR, gI_sL, gI_sD, gR_sI, gR_sR, gR_sL, gR_sD, gL_sI, gL_sR, gL_sL, gL_sD, gD_sI, gD_sR, gD_sL, gD_sD, isK_sI, isK_sR, isK_sL, isK_sD, inL_sI, inL_sR, inL_sL, inL_sD, nx_sI, nx_sR, nx_sL, nx_sD, kd_sI, kd_sR, kd_sL, kd_sD, ln_sI, ln_sR, ln_sL, ln_sD, ↓reduceIte, c8_n, c8_1, c8_2, c8_3, c8_4, Nat.reduceAdd]
  refine step.trans ?_
  rw [e_Traffic_senders_4]
  simp only [↓e_Traffic_senders_0, ↓e_Traffic_senders_1, ↓e_Traffic_senders_2, ↓e_Traffic_senders_3, ↓e_Traffic_senders_5, ↓e_Traffic_senders_6, ↓e_Traffic_senders_9, ↓e_Traffic_senders_12, ↓e_Traffic_senders_15, ↓e_Traffic_senders_16, ↓e_Traffic_senders_19, ↓e_Traffic_senders_22, ↓e_Traffic_senders_23, ↓e_Traffic_senders_24, ↓e_Traffic_senders_27, ↓e_Traffic_senders_30, ↓e_Traffic_senders_31, ↓e_Traffic_senders_32, ↓e_Traffic_senders_33, ↓e_Traffic_senders_34, ↓e_Traffic_senders_35, ↓e_Traffic_senders_36, ↓e_Traffic_senders_39, ↓e_Traffic_senders_42, ↓e_Traffic_senders_43, not_true_eq_false, not_false_eq_true, one0, true_or, or_true, eq_self, bI_z, bI_nz, bI_o, b_ft, bI_1, bI_0, ↓kC_l, ↓kC_r, Option.toList_some, Option.toList_none, List.cons_append, List.nil_append, s1_0, s1_1i, s1_1r, s1_1w, s1_1n, s1_s, s2_0, s2_1i, s2_1r, s2_1w, s2_1n, s2_s, gI_sI, gI_sR, gI_sL, gI_sD, gR_sI, gR_sR, gR_sL, gR_sD, gL_sI, gL_sR, gL_sL, gL_sD, gD_sI, gD_sR, gD_sL, gD_sD, isK_sI, isK_sR, isK_sL, isK_sD, inL_sI, inL_sR, inL_sL, inL_sD, nx_sI, nx_sR, nx_sL, nx_sD, kd_sI, kd_sR, kd_sL, kd_sD, ln_sI, ln_sR, ln_sL, ln_sD, ↓reduceIte, c8_n, c8_1, c8_2, c8_3, c8_4, Nat.reduceAdd, k_s S, k_land S, k_nodes S, k_hear S, k_routes S, k_traffic S, k_market S, g_cnt S, r_land S, r_routes S, r_traffic S, r_market S, r_nodes S, r_hear S, r_rland S, r_tland S, r_troutes S, le_t (n8 S)]
theorem snd_tb (S : Str n h) {i : Nat} (hi : i < n) : tb (upto (fun k s => if decide (0 < gI h (5 + 9 * k) 7) = true then s ||| bitN k else s) n 0 0) i = decide (0 < gI h (5 + 9 * i) 7) := by
  have hn := n8 S
  rw [upto_bits (fun k => decide (0 < gI h (5 + 9 * k) 7)) (by omega) n 0 0 (by omega), tb_0 (by omega), decide_eq_true (show 0 ≤ i ∧ i < 0 + n by omega)]
  simp
theorem drawA : ∀ lk, lk < 512 → (109 * ii lk + 57 : Int32) - (109 * ii lk + 57) / 512 * 512 = ii ((109 * lk + 57) % 512) := by decide +kernel
theorem ii_int {k : Nat} (hk : k < 2147483648) : (ii k).toInt = (k : Int) := by rw [ii_jj, jj_int (by omega) (by omega)]
theorem ii_div {a b : Nat} (ha : a < 2147483648) (hb : b < 2147483648) : ii a / ii b = ii (a / b) := by
  have h1 : a / b < 2147483648 := Nat.lt_of_le_of_lt (Nat.div_le_self a b) ha
  apply Int32.toInt_inj.mp
  rw [Int32.toInt_div_of_ne_left _ _ (fun q => by
    have := congrArg Int32.toInt q
    rw [ii_jj, jj_int (by omega) (by omega)] at this
    have e : Int32.minValue.toInt = -2147483648 := by decide
    rw [e] at this
    omega), ii_int ha, ii_int hb, ii_int h1, Int.ofNat_tdiv]
theorem drawB {a : Nat} (ha : a < 16384) : ii a / 512 = ii (a / 512) := ii_div (b := 512) (by omega) (by omega)
theorem ii_mul (a b : Nat) : ii a * ii b = ii (a * b) := by unfold ii; rw [Int32.ofNat_mul]
theorem q_draw (S : Str n h) {lk m : Nat} (hl : gI h 114 3 = ii lk) (hlk : lk < 512) (hm : m ≤ 32) (hm0 : 0 < m) : ∃ x lk', x < m ∧ lk' < 512 ∧ ∀ Q, WP Gm j_Traffic_draw 0 [some (.inr (.inl (some 114))), some (.inl (ii m))] [] h Q = Q (.inl (some (.inl (ii x)))) (sI h 114 3 (ii lk')) := by
  have h1 : (109 * lk + 57) % 512 < 512 := Nat.mod_lt _ (by omega)
  generalize hl' : (109 * lk + 57) % 512 = lk' at h1
  have h2 : lk' * m < 512 * m := Nat.mul_lt_mul_of_pos_right h1 hm0
  refine ⟨lk' * m / 512, lk', (Nat.div_lt_iff_lt_mul (by omega)).mpr (by rw [Nat.mul_comm m 512]; exact h2), h1, fun Q => ?_⟩
  simp only [↓e_Traffic_draw_0, ↓e_Traffic_draw_1, ↓e_Traffic_draw_3, ↓e_Traffic_draw_4, ↓e_Traffic_draw_7, ↓e_Traffic_draw_8, ↓e_Traffic_draw_10, ↓e_Traffic_draw_11, ↓e_Traffic_draw_14, ↓e_Traffic_draw_15, ↓e_Traffic_draw_18, ↓e_Traffic_draw_19, ↓e_Traffic_draw_22, ↓e_Traffic_draw_23, ↓e_Traffic_draw_24, ↓e_Traffic_draw_27, ↓e_Traffic_draw_28, not_true_eq_false, not_false_eq_true, one0, true_or, or_true, eq_self, bI_z, bI_nz, bI_o, b_ft, bI_1, bI_0, ↓kC_l, ↓kC_r, Option.toList_some, Option.toList_none, List.cons_append, List.nil_append, s1_0, s1_1i, s1_1r, s1_1w, s1_1n, s1_s, s2_0, s2_1i, s2_1r, s2_1w, s2_1n, s2_s, gI_sI, gI_sR, gI_sL, gI_sD, gR_sI, gR_sR, gR_sL, gR_sD, gL_sI, gL_sR, gL_sL, gL_sD, gD_sI, gD_sR, gD_sL, gD_sD, isK_sI, isK_sR, isK_sL, isK_sD, inL_sI, inL_sR, inL_sL, inL_sD, nx_sI, nx_sR, nx_sL, nx_sD, kd_sI, kd_sR, kd_sL, kd_sD, ln_sI, ln_sR, ln_sL, ln_sD, ↓reduceIte, c8_n, c8_1, c8_2, c8_3, c8_4, Nat.reduceAdd, k_s S, k_land S, k_nodes S, k_hear S, k_routes S, k_traffic S, k_market S, g_cnt S, r_land S, r_routes S, r_traffic S, r_market S, r_nodes S, r_hear S, r_rland S, r_tland S, r_troutes S, hl, (show ¬ (512 : Int32) = 0 by decide), drawA lk hlk, hl', and_self, ii_mul, drawB (show lk' * m < 16384 by omega)]
theorem q_dropFirst (S : Str n h) {i : Nat} (hi : i < 8) (V : QV n h i) : ∃ h', (∀ Q, WP Gm j_Traffic_dropFirst 0 [some (.inr (.inl (some 114))), some (.inr (.inl (some (5 + 9 * i))))] [] h Q = Q (.inl none) h') ∧ Fr (fun a k => wS i a k ∨ (a = 5 + 9 * i ∧ k = 6) ∨ (a = 114 ∧ k = 6)) (wR i) nW h h' ∧ Str n h' ∧ QV n h' i ∧ gI h' (5 + 9 * i) 6 = 0 := by
  obtain ⟨g, c1, F1, S1, V1, z1⟩ := q_finishFirst S hi V
  have hn := n8 S
  refine ⟨sI g 114 6 (gI g 114 6 + 1), fun Q => ?_, (F1.mono (fun a k q => by rcases q with q | q; exact Or.inl q; exact Or.inr (Or.inl q)) (fun _ _ q => q) (fun _ _ q => q)).sI _ (Or.inr (Or.inr ⟨rfl, rfl⟩)), S1.sI _ (by omega), V1.fr (fun a k h1 h2 => by rw [gI_sI, if_neg (by omega)]) (fun x hx => by rw [gI_sI, if_neg (by omega)]) (by rw [gI_sI, if_neg (by omega)]) (fun k => rfl), by rw [gI_sI, if_neg (by omega)]; exact z1⟩
  simp only [↓e_Traffic_dropFirst_0, ↓e_Traffic_dropFirst_1, ↓e_Traffic_dropFirst_4, ↓e_Traffic_dropFirst_5, ↓e_Traffic_dropFirst_6, ↓e_Traffic_dropFirst_9, ↓e_Traffic_dropFirst_10, ↓e_Traffic_dropFirst_11, ↓e_Traffic_dropFirst_14, not_true_eq_false, not_false_eq_true, one0, true_or, or_true, eq_self, bI_z, bI_nz, bI_o, b_ft, bI_1, bI_0, ↓kC_l, ↓kC_r, Option.toList_some, Option.toList_none, List.cons_append, List.nil_append, s1_0, s1_1i, s1_1r, s1_1w, s1_1n, s1_s, s2_0, s2_1i, s2_1r, s2_1w, s2_1n, s2_s, gI_sI, gI_sR, gI_sL, gI_sD, gR_sI, gR_sR, gR_sL, gR_sD, gL_sI, gL_sR, gL_sL, gL_sD, gD_sI, gD_sR, gD_sL, gD_sD, isK_sI, isK_sR, isK_sL, isK_sD, inL_sI, inL_sR, inL_sL, inL_sD, nx_sI, nx_sR, nx_sL, nx_sD, kd_sI, kd_sR, kd_sL, kd_sD, ln_sI, ln_sR, ln_sL, ln_sD, ↓reduceIte, c8_n, c8_1, c8_2, c8_3, c8_4, Nat.reduceAdd, l_nodes S hi, l_hear S hi, r_node S hi, r_queue S hi, r_set S hi, r_frames S hi, r_bits S hi, k_node S hi, k_queue S hi, k_frames S hi, k_set S hi, k_bits S hi, ii_nat (lt31 hi), c1, k_traffic S1]
def wTry (i : Nat) : Nat → Nat → Prop := fun a k => wS i a k ∨ (a = 5 + 9 * i ∧ (k = 5 ∨ k = 6 ∨ k = 12 ∨ k = 13)) ∨ (a = 114 ∧ (k = 3 ∨ k = 6))
theorem shl1 : ∀ t, t ≤ 3 → (1 <<< (ii (t + 1 + 1) &&& 31) : Int32) = ii (2 ^ (t + 2)) := by decide
theorem q_tryAgain (S : Str n h) {i : Nat} (hi : i < n) (V : NI n h i) (h7 : gI h (5 + 9 * i) 7 = 0) {lk : Nat} (hl : gI h 114 3 = ii lk) (hlk : lk < 512) :
    ∃ h', (∀ Q, WP Gm j_Traffic_tryAgain 0 [some (.inr (.inl (some 114))), some (.inr (.inl (some (5 + 9 * i))))] [] h Q = Q (.inl none) h') ∧ Fr (wTry i) (wR i) nW h h' ∧ Str n h' ∧ NI n h' i ∧ (∃ lk', lk' < 512 ∧ gI h' 114 3 = ii lk') ∧
      ((gI h' (5 + 9 * i) 12 = gI h (5 + 9 * i) 12 ∧ gI h' (5 + 9 * i) 13 = gI h (5 + 9 * i) 13) ∨ ∃ x, x ≤ 31 ∧ gI h' (5 + 9 * i) 12 = gI h (5 + 9 * i) 12 + ii x ∧ gI h' (5 + 9 * i) 13 = gI h (5 + 9 * i) 13 + 1) := by
  have hn := n8 S
  have hi8 := lt_8 (n8 S) hi
  obtain ⟨V1, ⟨t, t1, t2⟩, V3, V4⟩ := id V
  generalize hg : sI h (5 + 9 * i) 6 (ii (t + 1)) = g
  have Sg : Str n g := by rw [← hg]; exact S.sI _ (by omega)
  have Fg : Fr (wTry i) (wR i) nW h g := by rw [← hg]; exact (Fr.refl h).sI _ (by unfold wTry wS; omega)
  have eg : ∀ a k, ¬ (a = 5 + 9 * i ∧ k = 6) → gI g a k = gI h a k := fun a k q => by rw [← hg, gI_sI, if_neg q]
  have g6 : gI g (5 + 9 * i) 6 = ii (t + 1) := by rw [← hg, gI_sI, if_pos ⟨rfl, rfl⟩]
  have Vg : QV n g i := V1.fr (fun a k h1 h2 => eg _ _ (by omega)) (fun x hx => eg _ _ (by omega)) (eg _ _ (by omega)) (fun k => by rw [← hg]; rfl)
  have e5 : (ii (t + 1) < (5 : Int32)) = (t + 1 < 5) := ii_lt (j := 5) (by omega) (by omega)
  by_cases h5 : t + 1 < 5
  · have tail : ∀ (x : Nat) (lk' : Nat) (f : Hp), x ≤ 31 → lk' < 512 → (f = g ∨ f = sI g 114 3 (ii lk')) → gI f 114 3 = ii lk' → ∃ h', (∀ Q, WP Gm j_Traffic_tryAgain 50 [some (.inr (.inl (some 114))), some (.inr (.inl (some (5 + 9 * i))))] [.inl (ii x), .inr (.inl (some (5 + 9 * i)))] f Q = Q (.inl none) h') ∧ Fr (wTry i) (wR i) nW h h' ∧ Str n h' ∧ NI n h' i ∧ (∃ lk', lk' < 512 ∧ gI h' 114 3 = ii lk') ∧
        ((gI h' (5 + 9 * i) 12 = gI h (5 + 9 * i) 12 ∧ gI h' (5 + 9 * i) 13 = gI h (5 + 9 * i) 13) ∨ ∃ x, x ≤ 31 ∧ gI h' (5 + 9 * i) 12 = gI h (5 + 9 * i) 12 + ii x ∧ gI h' (5 + 9 * i) 13 = gI h (5 + 9 * i) 13 + 1) := by
      intro x lk' f hx hlk' hf hf3
      have Ff : Fr (wTry i) (wR i) nW h f := by
        rcases hf with rfl | rfl
        · exact Fg
        · exact Fg.sI _ (by unfold wTry wS; omega)
      have Sf : Str n f := by
        rcases hf with rfl | rfl
        · exact Sg
        · exact Sg.sI _ (by omega)
      have ef : ∀ a k, ¬ (a = 5 + 9 * i ∧ k = 6) → a ≠ 114 → gI f a k = gI h a k := fun a k q ha => by
        rcases hf with rfl | rfl
        · exact eg a k q
        · rw [gI_sI, if_neg (by omega)]; exact eg a k q
      have f6 : gI f (5 + 9 * i) 6 = ii (t + 1) := by
        rcases hf with rfl | rfl
        · exact g6
        · rw [gI_sI, if_neg (by omega)]; exact g6
      generalize hh' : sI (sI (sI f (5 + 9 * i) 5 (ii x)) (5 + 9 * i) 12 (gI f (5 + 9 * i) 12 + ii x)) (5 + 9 * i) 13 (gI f (5 + 9 * i) 13 + 1) = h'
      have F' : Fr (wTry i) (wR i) nW h h' := by rw [← hh']; exact ((Ff.sI _ (by unfold wTry wS; omega)).sI _ (by unfold wTry wS; omega)).sI _ (by unfold wTry wS; omega)
      have e' : ∀ a k, ¬ (a = 5 + 9 * i ∧ (k = 5 ∨ k = 12 ∨ k = 13)) → gI h' a k = gI f a k := fun a k q => by rw [← hh', gI_sI, gI_sI, gI_sI, if_neg (by omega), if_neg (by omega), if_neg (by omega)]
      have S' : Str n h' := by rw [← hh']; exact ((Sf.sI _ (by omega)).sI _ (by omega)).sI _ (by omega)
      refine ⟨h', fun Q => ?_, F', S', ⟨V1.fr (fun a k h1 h2 => F'.1 _ _ (by unfold wTry wS; omega)) (fun y hy => F'.1 _ _ (by unfold wTry wS; omega)) (by rw [e' _ _ (by omega), ef _ _ (by omega) (by omega)]) (fun k => by
        rw [← hh']
        show gR f _ _ = _
        rcases hf with rfl | rfl <;> (rw [← hg]; rfl)), ⟨t + 1, by omega, by rw [e' _ _ (by omega)]; exact f6⟩, ?_, ?_⟩, ⟨lk', hlk', by rw [e' _ _ (by omega)]; exact hf3⟩, Or.inr ⟨x, hx, ?_, ?_⟩⟩
      · simp only [↓e_Traffic_tryAgain_0, ↓e_Traffic_tryAgain_1, ↓e_Traffic_tryAgain_2, ↓e_Traffic_tryAgain_5, ↓e_Traffic_tryAgain_6, ↓e_Traffic_tryAgain_7, ↓e_Traffic_tryAgain_10, ↓e_Traffic_tryAgain_11, ↓e_Traffic_tryAgain_14, ↓e_Traffic_tryAgain_15, ↓e_Traffic_tryAgain_18, ↓e_Traffic_tryAgain_19, ↓e_Traffic_tryAgain_20, ↓e_Traffic_tryAgain_23, ↓e_Traffic_tryAgain_26, ↓e_Traffic_tryAgain_27, ↓e_Traffic_tryAgain_28, ↓e_Traffic_tryAgain_31, ↓e_Traffic_tryAgain_34, ↓e_Traffic_tryAgain_35, ↓e_Traffic_tryAgain_38, ↓e_Traffic_tryAgain_39, ↓e_Traffic_tryAgain_40, ↓e_Traffic_tryAgain_41, ↓e_Traffic_tryAgain_44, ↓e_Traffic_tryAgain_45, ↓e_Traffic_tryAgain_46, ↓e_Traffic_tryAgain_47, ↓e_Traffic_tryAgain_50, ↓e_Traffic_tryAgain_53, not_true_eq_false, not_false_eq_true, one0, true_or, or_true, eq_self, bI_z, bI_nz, bI_o, b_ft, bI_1, bI_0, ↓kC_l, ↓kC_r, Option.toList_some, Option.toList_none, List.cons_append, List.nil_append, s1_0, s1_1i, s1_1r, s1_1w, s1_1n, s1_s, s2_0, s2_1i, s2_1r, s2_1w, s2_1n, s2_s, gI_sI, gI_sR, gI_sL, gI_sD, gR_sI, gR_sR, gR_sL, gR_sD, gL_sI, gL_sR, gL_sL, gL_sD, gD_sI, gD_sR, gD_sL, gD_sD, isK_sI, isK_sR, isK_sL, isK_sD, inL_sI, inL_sR, inL_sL, inL_sD, nx_sI, nx_sR, nx_sL, nx_sD, kd_sI, kd_sR, kd_sL, kd_sD, ln_sI, ln_sR, ln_sL, ln_sD, ↓reduceIte, c8_n, c8_1, c8_2, c8_3, c8_4, Nat.reduceAdd, l_nodes Sf hi8, l_hear Sf hi8, r_node Sf hi8, r_queue Sf hi8, r_set Sf hi8, r_frames Sf hi8, r_bits Sf hi8, k_node Sf hi8, k_queue Sf hi8, k_frames Sf hi8, k_set Sf hi8, k_bits Sf hi8, ii_nat (lt31 hi8), q_waitAgain _ Sf hi8, hh']
      · obtain ⟨tc, q1, q2, q3⟩ := V3
        exact ⟨tc, q1, by rw [e' _ _ (by omega), ef _ _ (by omega) (by omega)]; exact q2, by rw [e' _ _ (by omega), ef _ _ (by omega) (by omega)]; exact q3⟩
      · obtain ⟨s, s1, s2, s3⟩ := V4
        exact ⟨s, s1, by rw [e' _ _ (by omega), ef _ _ (by omega) (by omega)]; exact s2, fun k p1 p2 => by unfold mb; rw [F'.2.2.1 _ _ (fun q => q)]; exact s3 k p1 p2⟩
      · rw [← hh', gI_sI, if_neg (by omega), gI_sI, if_pos ⟨rfl, rfl⟩, ef _ _ (by omega) (by omega)]
      · rw [← hh', gI_sI, if_pos ⟨rfl, rfl⟩, ef _ _ (by omega) (by omega)]
    by_cases hch : gI h (5 + 9 * i) 3 = 0
    · obtain ⟨x, lk', x1, x2, x3⟩ := q_draw Sg (m := 2 ^ (t + 2)) (by rw [eg _ _ (by omega)]; exact hl) hlk (by
        have : ∀ t, t ≤ 3 → 2 ^ (t + 2) ≤ 32 := by decide
        exact this t (by omega)) (Nat.pos_of_ne_zero (by
        have : ∀ t, t ≤ 3 → 2 ^ (t + 2) ≠ 0 := by decide
        exact this t (by omega)))
      have hx31 : x ≤ 31 := by
        have : ∀ t, t ≤ 3 → 2 ^ (t + 2) ≤ 32 := by decide
        have := this t (by omega)
        omega
      obtain ⟨h', r1, r2⟩ := tail x lk' (sI g 114 3 (ii lk')) hx31 x2 (Or.inr rfl) (by rw [gI_sI, if_pos ⟨rfl, rfl⟩])
      refine ⟨h', fun Q => ?_, r2⟩
      rw [← r1 Q]
      simp only [↓e_Traffic_tryAgain_0, ↓e_Traffic_tryAgain_1, ↓e_Traffic_tryAgain_2, ↓e_Traffic_tryAgain_5, ↓e_Traffic_tryAgain_6, ↓e_Traffic_tryAgain_7, ↓e_Traffic_tryAgain_10, ↓e_Traffic_tryAgain_11, ↓e_Traffic_tryAgain_14, ↓e_Traffic_tryAgain_15, ↓e_Traffic_tryAgain_18, ↓e_Traffic_tryAgain_19, ↓e_Traffic_tryAgain_20, ↓e_Traffic_tryAgain_23, ↓e_Traffic_tryAgain_26, ↓e_Traffic_tryAgain_27, ↓e_Traffic_tryAgain_28, ↓e_Traffic_tryAgain_31, ↓e_Traffic_tryAgain_34, ↓e_Traffic_tryAgain_35, ↓e_Traffic_tryAgain_38, ↓e_Traffic_tryAgain_39, ↓e_Traffic_tryAgain_40, ↓e_Traffic_tryAgain_41, ↓e_Traffic_tryAgain_44, ↓e_Traffic_tryAgain_45, ↓e_Traffic_tryAgain_46, ↓e_Traffic_tryAgain_47, ↓e_Traffic_tryAgain_53, not_true_eq_false, not_false_eq_true, one0, true_or, or_true, eq_self, bI_z, bI_nz, bI_o, b_ft, bI_1, bI_0, ↓kC_l, ↓kC_r, Option.toList_some, Option.toList_none, List.cons_append, List.nil_append, s1_0, s1_1i, s1_1r, s1_1w, s1_1n, s1_s, s2_0, s2_1i, s2_1r, s2_1w, s2_1n, s2_s, gI_sI, gI_sR, gI_sL, gI_sD, gR_sI, gR_sR, gR_sL, gR_sD, gL_sI, gL_sR, gL_sL, gL_sD, gD_sI, gD_sR, gD_sL, gD_sD, isK_sI, isK_sR, isK_sL, isK_sD, inL_sI, inL_sR, inL_sL, inL_sD, nx_sI, nx_sR, nx_sL, nx_sD, kd_sI, kd_sR, kd_sL, kd_sD, ln_sI, ln_sR, ln_sL, ln_sD, ↓reduceIte, c8_n, c8_1, c8_2, c8_3, c8_4, Nat.reduceAdd, k_s S, k_land S, k_nodes S, k_hear S, k_routes S, k_traffic S, k_market S, g_cnt S, r_land S, r_routes S, r_traffic S, r_market S, r_nodes S, r_hear S, r_rland S, r_tland S, r_troutes S, l_nodes S hi8, l_hear S hi8, r_node S hi8, r_queue S hi8, r_set S hi8, r_frames S hi8, r_bits S hi8, k_node S hi8, k_queue S hi8, k_frames S hi8, k_set S hi8, k_bits S hi8, ii_nat (lt31 hi8), t2, ii_succ, and_self, hg, g6, k_s Sg, k_land Sg, k_nodes Sg, k_hear Sg, k_routes Sg, k_traffic Sg, k_market Sg, g_cnt Sg, r_land Sg, r_routes Sg, r_traffic Sg, r_market Sg, r_nodes Sg, r_hear Sg, r_rland Sg, r_tland Sg, r_troutes Sg, l_nodes Sg hi8, l_hear Sg hi8, r_node Sg hi8, r_queue Sg hi8, r_set Sg hi8, r_frames Sg hi8, r_bits Sg hi8, k_node Sg hi8, k_queue Sg hi8, k_frames Sg hi8, k_set Sg hi8, k_bits Sg hi8, ii_nat (lt31 hi8), e5, h5, (show ¬ (3 : Nat) = 6 by decide), and_false, hch, shl1 t (by omega), x3, eg (5 + 9 * i) 3 (by omega)]
      done
    · obtain ⟨h', r1, r2⟩ := tail 0 lk g (by omega) hlk (Or.inl rfl) (by rw [eg _ _ (by omega)]; exact hl)
      refine ⟨h', fun Q => ?_, r2⟩
      rw [← r1 Q]
      simp only [↓e_Traffic_tryAgain_0, ↓e_Traffic_tryAgain_1, ↓e_Traffic_tryAgain_2, ↓e_Traffic_tryAgain_5, ↓e_Traffic_tryAgain_6, ↓e_Traffic_tryAgain_7, ↓e_Traffic_tryAgain_10, ↓e_Traffic_tryAgain_11, ↓e_Traffic_tryAgain_14, ↓e_Traffic_tryAgain_15, ↓e_Traffic_tryAgain_18, ↓e_Traffic_tryAgain_19, ↓e_Traffic_tryAgain_20, ↓e_Traffic_tryAgain_23, ↓e_Traffic_tryAgain_26, ↓e_Traffic_tryAgain_27, ↓e_Traffic_tryAgain_28, ↓e_Traffic_tryAgain_31, ↓e_Traffic_tryAgain_34, ↓e_Traffic_tryAgain_35, ↓e_Traffic_tryAgain_38, ↓e_Traffic_tryAgain_39, ↓e_Traffic_tryAgain_40, ↓e_Traffic_tryAgain_41, ↓e_Traffic_tryAgain_44, ↓e_Traffic_tryAgain_45, ↓e_Traffic_tryAgain_46, ↓e_Traffic_tryAgain_47, ↓e_Traffic_tryAgain_53, not_true_eq_false, not_false_eq_true, one0, true_or, or_true, eq_self, bI_z, bI_nz, bI_o, b_ft, bI_1, bI_0, ↓kC_l, ↓kC_r, Option.toList_some, Option.toList_none, List.cons_append, List.nil_append, s1_0, s1_1i, s1_1r, s1_1w, s1_1n, s1_s, s2_0, s2_1i, s2_1r, s2_1w, s2_1n, s2_s, gI_sI, gI_sR, gI_sL, gI_sD, gR_sI, gR_sR, gR_sL, gR_sD, gL_sI, gL_sR, gL_sL, gL_sD, gD_sI, gD_sR, gD_sL, gD_sD, isK_sI, isK_sR, isK_sL, isK_sD, inL_sI, inL_sR, inL_sL, inL_sD, nx_sI, nx_sR, nx_sL, nx_sD, kd_sI, kd_sR, kd_sL, kd_sD, ln_sI, ln_sR, ln_sL, ln_sD, ↓reduceIte, c8_n, c8_1, c8_2, c8_3, c8_4, Nat.reduceAdd, k_s S, k_land S, k_nodes S, k_hear S, k_routes S, k_traffic S, k_market S, g_cnt S, r_land S, r_routes S, r_traffic S, r_market S, r_nodes S, r_hear S, r_rland S, r_tland S, r_troutes S, l_nodes S hi8, l_hear S hi8, r_node S hi8, r_queue S hi8, r_set S hi8, r_frames S hi8, r_bits S hi8, k_node S hi8, k_queue S hi8, k_frames S hi8, k_set S hi8, k_bits S hi8, ii_nat (lt31 hi8), t2, ii_succ, and_self, hg, g6, k_s Sg, k_land Sg, k_nodes Sg, k_hear Sg, k_routes Sg, k_traffic Sg, k_market Sg, g_cnt Sg, r_land Sg, r_routes Sg, r_traffic Sg, r_market Sg, r_nodes Sg, r_hear Sg, r_rland Sg, r_tland Sg, r_troutes Sg, l_nodes Sg hi8, l_hear Sg hi8, r_node Sg hi8, r_queue Sg hi8, r_set Sg hi8, r_frames Sg hi8, r_bits Sg hi8, k_node Sg hi8, k_queue Sg hi8, k_frames Sg hi8, k_set Sg hi8, k_bits Sg hi8, ii_nat (lt31 hi8), e5, h5, (show ¬ (3 : Nat) = 6 by decide), and_false, hch, eg (5 + 9 * i) 3 (by omega)]
      rfl
  · obtain ⟨h', r1, r2, r3, r4, r5⟩ := q_dropFirst Sg hi8 Vg
    have e' : ∀ a k, ¬ (wS i a k ∨ (a = 5 + 9 * i ∧ k = 6) ∨ (a = 114 ∧ k = 6)) → gI h' a k = gI h a k := fun a k q => by rw [r2.1 a k q]; exact eg a k (fun w => q (Or.inr (Or.inl w)))
    refine ⟨h', fun Q => ?_, Fg.trans (r2.mono (fun a k q => by rcases q with q | q | q; exact Or.inl q; exact Or.inr (Or.inl ⟨q.1, by omega⟩); exact Or.inr (Or.inr ⟨q.1, by omega⟩)) (fun _ _ q => q) (fun _ _ q => q)), r3, ⟨r4, ⟨0, by omega, r5⟩, ⟨0, by omega, by rw [e' _ _ (by unfold wS; omega)]; exact h7, fun q => absurd rfl q⟩, ?_⟩, ⟨lk, hlk, by rw [e' _ _ (by unfold wS; omega)]; exact hl⟩, Or.inl ⟨e' _ _ (by unfold wS; omega), e' _ _ (by unfold wS; omega)⟩⟩
    · simp only [↓e_Traffic_tryAgain_0, ↓e_Traffic_tryAgain_1, ↓e_Traffic_tryAgain_2, ↓e_Traffic_tryAgain_5, ↓e_Traffic_tryAgain_6, ↓e_Traffic_tryAgain_7, ↓e_Traffic_tryAgain_10, ↓e_Traffic_tryAgain_11, ↓e_Traffic_tryAgain_14, ↓e_Traffic_tryAgain_15, ↓e_Traffic_tryAgain_18, ↓e_Traffic_tryAgain_19, ↓e_Traffic_tryAgain_20, ↓e_Traffic_tryAgain_23, ↓e_Traffic_tryAgain_26, ↓e_Traffic_tryAgain_27, ↓e_Traffic_tryAgain_28, ↓e_Traffic_tryAgain_31, ↓e_Traffic_tryAgain_34, ↓e_Traffic_tryAgain_35, ↓e_Traffic_tryAgain_38, ↓e_Traffic_tryAgain_39, ↓e_Traffic_tryAgain_40, ↓e_Traffic_tryAgain_41, ↓e_Traffic_tryAgain_44, ↓e_Traffic_tryAgain_45, ↓e_Traffic_tryAgain_46, ↓e_Traffic_tryAgain_47, ↓e_Traffic_tryAgain_50, ↓e_Traffic_tryAgain_53, not_true_eq_false, not_false_eq_true, one0, true_or, or_true, eq_self, bI_z, bI_nz, bI_o, b_ft, bI_1, bI_0, ↓kC_l, ↓kC_r, Option.toList_some, Option.toList_none, List.cons_append, List.nil_append, s1_0, s1_1i, s1_1r, s1_1w, s1_1n, s1_s, s2_0, s2_1i, s2_1r, s2_1w, s2_1n, s2_s, gI_sI, gI_sR, gI_sL, gI_sD, gR_sI, gR_sR, gR_sL, gR_sD, gL_sI, gL_sR, gL_sL, gL_sD, gD_sI, gD_sR, gD_sL, gD_sD, isK_sI, isK_sR, isK_sL, isK_sD, inL_sI, inL_sR, inL_sL, inL_sD, nx_sI, nx_sR, nx_sL, nx_sD, kd_sI, kd_sR, kd_sL, kd_sD, ln_sI, ln_sR, ln_sL, ln_sD, ↓reduceIte, c8_n, c8_1, c8_2, c8_3, c8_4, Nat.reduceAdd, k_s S, k_land S, k_nodes S, k_hear S, k_routes S, k_traffic S, k_market S, g_cnt S, r_land S, r_routes S, r_traffic S, r_market S, r_nodes S, r_hear S, r_rland S, r_tland S, r_troutes S, l_nodes S hi8, l_hear S hi8, r_node S hi8, r_queue S hi8, r_set S hi8, r_frames S hi8, r_bits S hi8, k_node S hi8, k_queue S hi8, k_frames S hi8, k_set S hi8, k_bits S hi8, ii_nat (lt31 hi8), t2, ii_succ, and_self, hg, g6, k_s Sg, k_land Sg, k_nodes Sg, k_hear Sg, k_routes Sg, k_traffic Sg, k_market Sg, g_cnt Sg, r_land Sg, r_routes Sg, r_traffic Sg, r_market Sg, r_nodes Sg, r_hear Sg, r_rland Sg, r_tland Sg, r_troutes Sg, l_nodes Sg hi8, l_hear Sg hi8, r_node Sg hi8, r_queue Sg hi8, r_set Sg hi8, r_frames Sg hi8, r_bits Sg hi8, k_node Sg hi8, k_queue Sg hi8, k_frames Sg hi8, k_set Sg hi8, k_bits Sg hi8, ii_nat (lt31 hi8), e5, h5, r1]
    · obtain ⟨s, s1, s2, s3⟩ := V4
      exact ⟨s, s1, by rw [e' _ _ (by unfold wS; omega)]; exact s2, fun k p1 p2 => by unfold mb; rw [r2.2.2.1 _ _ (fun q => q), ← hg]; exact s3 k p1 p2⟩
end TR
