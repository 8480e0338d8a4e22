/-! pturn: a node's turn, its sending, its end -/
section TU
variable {n : Nat} {h : Hp}
theorem node_of (hn : n ≤ 8) {x : Int32} (hx : decide (0 ≤ x ∧ x < ii n) = true) : ∃ v, v < n ∧ x = ii v := by
  rw [decide_eq_true_eq] at hx
  have e : ii x.toNatClampNeg = x := Int32.ofNat_toNatClampNeg x hx.1
  refine ⟨x.toNatClampNeg, ?_, e.symm⟩
  have h2 := hx.2
  rw [← e, ii_lt (Int32.toNatClampNeg_lt x) (by omega)] at h2
  exact h2
theorem q_pushCopy (S : Str n h) {j F : Nat} (hj : j < 8) (V : QV n h j) (hF : isK h F kc_Frame = true) (W : Vf n h F) : ∃ (b : Bool) (h' : Hp), (∀ Q, WP Gm j_Traffic_pushCopy 0 [some (.inr (.inl (some (6 + 9 * j)))), some (.inr (.inl (some F)))] [] h Q = Q (.inl (some (.inl (bI b)))) h') ∧ Fr (wQ j) nW nW h h' ∧ QV n h' j ∧ (¬ gI h (6 + 9 * j) 1 = 0 → ¬ gI h' (6 + 9 * j) 1 = 0) := by
  obtain ⟨a1, a2, a3, a4, a5, b1, b2, b3, b4, b5, b6, b7, b8, b9, b10, b11⟩ := W
  obtain ⟨b, h', r1, r2, r3⟩ := q_queueAdd S hj V b2 b4 b6 b7 b9 b10 b11 (gI h F 4 + 1)
  refine ⟨b, h', fun Q => ?_, r2, r3⟩
  simp only [↓e_Traffic_pushCopy_0, ↓e_Traffic_pushCopy_1, ↓e_Traffic_pushCopy_2, ↓e_Traffic_pushCopy_5, ↓e_Traffic_pushCopy_6, ↓e_Traffic_pushCopy_9, ↓e_Traffic_pushCopy_10, ↓e_Traffic_pushCopy_13, ↓e_Traffic_pushCopy_14, ↓e_Traffic_pushCopy_17, ↓e_Traffic_pushCopy_18, ↓e_Traffic_pushCopy_21, ↓e_Traffic_pushCopy_22, ↓e_Traffic_pushCopy_23, ↓e_Traffic_pushCopy_26, not_true_eq_false, not_false_eq_true, one0, true_or, or_true, eq_self, bI_z, bI_nz, bI_o, b_ft, bI_1, bI_0, ↓kC_l, ↓kC_r, Option.toList_some, Option.toList_none, List.cons_append, List.nil_append, s1_0, s1_1i, s1_1r, s1_1w, s1_1n, s1_s, s2_0, s2_1i, s2_1r, s2_1w, s2_1n, s2_s, gI_sI, gI_sR, gI_sL, gI_sD, gR_sI, gR_sR, gR_sL, gR_sD, gL_sI, gL_sR, gL_sL, gL_sD, gD_sI, gD_sR, gD_sL, gD_sD, isK_sI, isK_sR, isK_sL, isK_sD, inL_sI, inL_sR, inL_sL, inL_sD, nx_sI, nx_sR, nx_sL, nx_sD, kd_sI, kd_sR, kd_sL, kd_sD, ln_sI, ln_sR, ln_sL, ln_sD, ↓reduceIte, c8_n, c8_1, c8_2, c8_3, c8_4, Nat.reduceAdd, l_nodes S hj, l_hear S hj, r_node S hj, r_queue S hj, r_set S hj, r_frames S hj, r_bits S hj, k_node S hj, k_queue S hj, k_frames S hj, k_set S hj, k_bits S hj, ii_nat (lt31 hj), hF, b1, b3, b5, b8, r1]
/-- what has arrived stays so -/
def MD (h h' : Hp) : Prop := ∀ i, i < 8 → ∀ k, mb h i k = true → mb h' i k = true
theorem MD.refl (h : Hp) : MD h h := fun _ _ _ q => q
theorem MD.trans {a b c : Hp} (x : MD a b) (y : MD b c) : MD a c := fun i hi k q => y i hi k (x i hi k q)
theorem MD.fr {WI WR : Nat → Nat → Prop} {a b : Hp} (F : Fr WI WR nW a b) : MD a b := fun i _ k q => by unfold mb at q ⊢; rw [F.2.2.1 _ _ (fun w => w)]; exact q
def wAr : Nat → Nat → Prop := fun a k => a = 114 ∧ (k = 4 ∨ k = 5)
theorem q_arrive (S : Str n h) {F : Nat} (hF : isK h F kc_Frame = true) (W : Vf n h F) (N : ∀ i, i < n → NI n h i) (D : DS n h) :
    ∃ h', (∀ Q, WP Gm j_Traffic_arrive 0 [some (.inr (.inl (some 114))), some (.inr (.inl (some F))), none] [] h Q = Q (.inl none) h') ∧ Fr wAr nW (wTrL n) h h' ∧ (∀ i, i < n → NI n h' i) ∧ DS n h' ∧ MD h h' := by
  have hn := n8 S
  obtain ⟨fr, a2, a3, num, s, b1, b2, b3, b4, b5, b6, b7, b8, b9, b10, b11⟩ := W
  have hf8 := lt_8 (n8 S) b2
  have hk : num < 512 := by omega
  have k512 : num / 64 < 8 := by omega
  by_cases hm : mb h fr num = true
  · refine ⟨sI h 114 5 (gI h 114 5 + 1), fun Q => ?_, (Fr.refl h).sI _ ⟨rfl, Or.inr rfl⟩, fun i hi => (N i hi).fr hi (fun a k p q => by rw [gI_sI, if_neg (by omega)]) (fun x hx => by rw [gI_sI, if_neg (by omega)]) (by rw [gI_sI, if_neg (by omega)]) (fun k => rfl) (fun k q => by rw [gI_sI, if_neg (by omega)]) (fun k => rfl), D.fr (by rw [gI_sI, if_neg (by omega)]) (fun i k hi => rfl), fun i _ k q => q⟩
    simp only [↓e_Traffic_arrive_0, ↓e_Traffic_arrive_1, ↓e_Traffic_arrive_4, ↓e_Traffic_arrive_5, ↓e_Traffic_arrive_8, ↓e_Traffic_arrive_11, ↓e_Traffic_arrive_14, ↓e_Traffic_arrive_15, ↓e_Traffic_arrive_16, ↓e_Traffic_arrive_19, ↓e_Traffic_arrive_22, ↓e_Traffic_arrive_23, ↓e_Traffic_arrive_26, ↓e_Traffic_arrive_27, ↓e_Traffic_arrive_30, ↓e_Traffic_arrive_31, ↓e_Traffic_arrive_32, ↓e_Traffic_arrive_33, ↓e_Traffic_arrive_36, ↓e_Traffic_arrive_39, ↓e_Traffic_arrive_42, ↓e_Traffic_arrive_43, ↓e_Traffic_arrive_44, ↓e_Traffic_arrive_47, ↓e_Traffic_arrive_48, ↓e_Traffic_arrive_49, ↓e_Traffic_arrive_52, ↓e_Traffic_arrive_55, ↓e_Traffic_arrive_56, ↓e_Traffic_arrive_57, ↓e_Traffic_arrive_60, ↓e_Traffic_arrive_63, ↓e_Traffic_arrive_64, ↓e_Traffic_arrive_65, ↓e_Traffic_arrive_68, ↓e_Traffic_arrive_69, ↓e_Traffic_arrive_70, ↓e_Traffic_arrive_73, not_true_eq_false, not_false_eq_true, one0, true_or, or_true, eq_self, bI_z, bI_nz, bI_o, b_ft, bI_1, bI_0, ↓kC_l, ↓kC_r, Option.toList_some, Option.toList_none, List.cons_append, List.nil_append, s1_0, s1_1i, s1_1r, s1_1w, s1_1n, s1_s, s2_0, s2_1i, s2_1r, s2_1w, s2_1n, s2_s, gI_sI, gI_sR, gI_sL, gI_sD, gR_sI, gR_sR, gR_sL, gR_sD, gL_sI, gL_sR, gL_sL, gL_sD, gD_sI, gD_sR, gD_sL, gD_sD, isK_sI, isK_sR, isK_sL, isK_sD, inL_sI, inL_sR, inL_sL, inL_sD, nx_sI, nx_sR, nx_sL, nx_sD, kd_sI, kd_sR, kd_sL, kd_sD, ln_sI, ln_sR, ln_sL, ln_sD, ↓reduceIte, c8_n, c8_1, c8_2, c8_3, c8_4, Nat.reduceAdd, k_s S, k_land S, k_nodes S, k_hear S, k_routes S, k_traffic S, k_market S, g_cnt S, r_land S, r_routes S, r_traffic S, r_market S, r_nodes S, r_hear S, r_rland S, r_tland S, r_troutes S, l_nodes S hf8, l_hear S hf8, r_node S hf8, r_queue S hf8, r_set S hf8, r_frames S hf8, r_bits S hf8, k_node S hf8, k_queue S hf8, k_frames S hf8, k_set S hf8, k_bits S hf8, ii_nat (lt31 hf8), hF, b1, b8, q_isNode _ S, isNode_ii S hf8, b2, decide_true, q_has _ S hf8 hk, hm, Bool.true_eq_false]
  · rw [Bool.not_eq_true] at hm
    have eI : ∀ a k, ¬ (a = 114 ∧ k = 4) → gI (sI (putS h fr num) 114 4 (gI h 114 4 + 1)) a k = gI h a k := fun a k q => by rw [gI_sI, if_neg q]; rfl
    have eM : ∀ i k, mb (sI (putS h fr num) 114 4 (gI h 114 4 + 1)) i k = (mb h i k || (decide (i = fr) && decide (k = num))) := fun i k => mb_put hk i k
    refine ⟨sI (putS h fr num) 114 4 (gI h 114 4 + 1), fun Q => ?_, (((Fr.refl h).sL (WL := wTrL n) _ (by unfold wTrL; omega)).sI _ ⟨rfl, Or.inl rfl⟩), fun i hi => ?_, ?_, fun i _ k q => by rw [eM, q]; rfl⟩
    · have St : isK (putS h fr num) 114 kc_Traffic = true := k_traffic S
      have Sg : gI (putS h fr num) 114 4 = gI h 114 4 := rfl
      simp only [↓e_Traffic_arrive_0, ↓e_Traffic_arrive_1, ↓e_Traffic_arrive_4, ↓e_Traffic_arrive_5, ↓e_Traffic_arrive_8, ↓e_Traffic_arrive_11, ↓e_Traffic_arrive_14, ↓e_Traffic_arrive_15, ↓e_Traffic_arrive_16, ↓e_Traffic_arrive_19, ↓e_Traffic_arrive_22, ↓e_Traffic_arrive_23, ↓e_Traffic_arrive_26, ↓e_Traffic_arrive_27, ↓e_Traffic_arrive_30, ↓e_Traffic_arrive_31, ↓e_Traffic_arrive_32, ↓e_Traffic_arrive_33, ↓e_Traffic_arrive_36, ↓e_Traffic_arrive_39, ↓e_Traffic_arrive_42, ↓e_Traffic_arrive_43, ↓e_Traffic_arrive_44, ↓e_Traffic_arrive_47, ↓e_Traffic_arrive_48, ↓e_Traffic_arrive_49, ↓e_Traffic_arrive_52, ↓e_Traffic_arrive_55, ↓e_Traffic_arrive_56, ↓e_Traffic_arrive_57, ↓e_Traffic_arrive_60, ↓e_Traffic_arrive_63, ↓e_Traffic_arrive_64, ↓e_Traffic_arrive_65, ↓e_Traffic_arrive_68, ↓e_Traffic_arrive_69, ↓e_Traffic_arrive_70, ↓e_Traffic_arrive_73, not_true_eq_false, not_false_eq_true, one0, true_or, or_true, eq_self, bI_z, bI_nz, bI_o, b_ft, bI_1, bI_0, ↓kC_l, ↓kC_r, Option.toList_some, Option.toList_none, List.cons_append, List.nil_append, s1_0, s1_1i, s1_1r, s1_1w, s1_1n, s1_s, s2_0, s2_1i, s2_1r, s2_1w, s2_1n, s2_s, gI_sI, gI_sR, gI_sL, gI_sD, gR_sI, gR_sR, gR_sL, gR_sD, gL_sI, gL_sR, gL_sL, gL_sD, gD_sI, gD_sR, gD_sL, gD_sD, isK_sI, isK_sR, isK_sL, isK_sD, inL_sI, inL_sR, inL_sL, inL_sD, nx_sI, nx_sR, nx_sL, nx_sD, kd_sI, kd_sR, kd_sL, kd_sD, ln_sI, ln_sR, ln_sL, ln_sD, ↓reduceIte, c8_n, c8_1, c8_2, c8_3, c8_4, Nat.reduceAdd, k_s S, k_land S, k_nodes S, k_hear S, k_routes S, k_traffic S, k_market S, g_cnt S, r_land S, r_routes S, r_traffic S, r_market S, r_nodes S, r_hear S, r_rland S, r_tland S, r_troutes S, l_nodes S hf8, l_hear S hf8, r_node S hf8, r_queue S hf8, r_set S hf8, r_frames S hf8, r_bits S hf8, k_node S hf8, k_queue S hf8, k_frames S hf8, k_set S hf8, k_bits S hf8, ii_nat (lt31 hf8), hF, b1, b8, q_isNode _ S, isNode_ii S hf8, b2, decide_true, q_has _ S hf8 hk, hm, q_put _ S hf8 hk, St, Sg]
    · obtain ⟨V1, V2, V3, s9, s1, s2, s3⟩ := N i hi
      refine ⟨V1.fr (fun a k p q => eI _ _ (by omega)) (fun x hx => eI _ _ (by omega)) (eI _ _ (by omega)) (fun k => rfl), by rw [eI _ _ (by omega)]; exact V2, by rw [eI _ _ (by omega), eI _ _ (by omega)]; exact V3, s9, s1, by rw [eI _ _ (by omega)]; exact s2, fun k p1 p2 => ?_⟩
      rw [eM, s3 k p1 p2]
      by_cases e : i = fr
      · subst e
        have : s9 = s := by
          have := s2.symm.trans b9
          rwa [ii_inj (by omega) (by omega)] at this
        rw [decide_eq_false (show ¬ k = num by omega)]
        simp
      · rw [decide_eq_false e]
        rfl
    · unfold DS
      rw [gI_sI, if_pos ⟨rfl, rfl⟩, D, ii_succ]
      refine congrArg ii ?_
      have := sumN_inc (f := fun i => cnt (mb h i) 512) (g := fun i => cnt (mb (sI (putS h fr num) 114 4 (gI h 114 4 + 1)) i) 512) (k := fr) (d := 1) (fun i => by
        by_cases e : i = fr
        · subst e
          rw [if_pos rfl]
          show cnt _ 512 = _
          rw [cnt_put (k := num) hm (fun k => by rw [eM, decide_eq_true rfl, Bool.true_and])]
          rw [if_pos hk]
        · rw [if_neg e]
          show cnt _ 512 = cnt _ 512 + 0
          rw [Nat.add_zero]
          exact cnt_congr fun k _ => by rw [eM, decide_eq_false e]; simp) (m := n)
      rw [if_pos b2] at this
      exact this.symm
def wRc (j : Nat) : Nat → Nat → Prop := fun a k => (a = 114 ∧ 4 ≤ k ∧ k ≤ 6) ∨ wQ j a k
theorem q_receive (S : Str n h) {j F : Nat} (hj : j < n) (hF : isK h F kc_Frame = true) (W : Vf n h F) (N : ∀ i, i < n → NI n h i) (D : DS n h) :
    ∃ h', (∀ Q, WP Gm j_Traffic_receive 0 [some (.inr (.inl (some 114))), some (.inl (ii j)), some (.inr (.inl (some F)))] [] h Q = Q (.inl none) h') ∧ Fr (wRc j) nW (wTrL n) h h' ∧ (∀ i, i < n → NI n h' i) ∧ DS n h' ∧ MD h h' := by
  have hn := n8 S
  have hj8 := lt_8 (n8 S) hj
  obtain ⟨fr, to, len, num, s, b1, b2, b3, b4, b5, b6, b7, b8, b9, b10, b11⟩ := id W
  have drop : ∀ g : Hp, Str n g → (∀ i, i < n → NI n g i) → DS n g → (∀ i, i < n → NI n (sI g 114 6 (gI g 114 6 + 1)) i) ∧ DS n (sI g 114 6 (gI g 114 6 + 1)) := fun g Sg Ng Dg =>
    ⟨fun i hi => (Ng i hi).fr hi (fun a k p q => by rw [gI_sI, if_neg (by omega)]) (fun x hx => by rw [gI_sI, if_neg (by omega)]) (by rw [gI_sI, if_neg (by omega)]) (fun k => rfl) (fun k q => by rw [gI_sI, if_neg (by omega)]) (fun k => rfl), Dg.fr (by rw [gI_sI, if_neg (by omega)]) (fun i k hi => rfl)⟩
  by_cases htj : to = j
  · subst htj
    obtain ⟨h', r1, r2, r3, r4, r5⟩ := q_arrive S hF W N D
    refine ⟨h', fun Q => ?_, r2.mono (fun a k q => by unfold wAr at q; unfold wRc wQ; omega) (fun _ _ q => q) (fun _ _ q => q), r3, r4, r5⟩
    simp only [↓e_Traffic_receive_0, ↓e_Traffic_receive_1, ↓e_Traffic_receive_4, ↓e_Traffic_receive_5, ↓e_Traffic_receive_8, ↓e_Traffic_receive_9, ↓e_Traffic_receive_10, ↓e_Traffic_receive_13, ↓e_Traffic_receive_14, ↓e_Traffic_receive_15, ↓e_Traffic_receive_18, ↓e_Traffic_receive_20, ↓e_Traffic_receive_23, ↓e_Traffic_receive_24, ↓e_Traffic_receive_27, ↓e_Traffic_receive_30, ↓e_Traffic_receive_31, ↓e_Traffic_receive_32, ↓e_Traffic_receive_35, ↓e_Traffic_receive_36, ↓e_Traffic_receive_39, ↓e_Traffic_receive_42, ↓e_Traffic_receive_43, ↓e_Traffic_receive_44, ↓e_Traffic_receive_47, ↓e_Traffic_receive_48, ↓e_Traffic_receive_49, ↓e_Traffic_receive_52, not_true_eq_false, not_false_eq_true, one0, true_or, or_true, eq_self, bI_z, bI_nz, bI_o, b_ft, bI_1, bI_0, ↓kC_l, ↓kC_r, Option.toList_some, Option.toList_none, List.cons_append, List.nil_append, s1_0, s1_1i, s1_1r, s1_1w, s1_1n, s1_s, s2_0, s2_1i, s2_1r, s2_1w, s2_1n, s2_s, gI_sI, gI_sR, gI_sL, gI_sD, gR_sI, gR_sR, gR_sL, gR_sD, gL_sI, gL_sR, gL_sL, gL_sD, gD_sI, gD_sR, gD_sL, gD_sD, isK_sI, isK_sR, isK_sL, isK_sD, inL_sI, inL_sR, inL_sL, inL_sD, nx_sI, nx_sR, nx_sL, nx_sD, kd_sI, kd_sR, kd_sL, kd_sD, ln_sI, ln_sR, ln_sL, ln_sD, ↓reduceIte, c8_n, c8_1, c8_2, c8_3, c8_4, Nat.reduceAdd, k_s S, k_land S, k_nodes S, k_hear S, k_routes S, k_traffic S, k_market S, g_cnt S, r_land S, r_routes S, r_traffic S, r_market S, r_nodes S, r_hear S, r_rland S, r_tland S, r_troutes S, hF, b3, r1]
  · have hne : (ii to = ii j) = False := by rw [ii_inj (by omega) (by omega)]; exact eq_false htj
    by_cases h7 : (7 : Int32) ≤ gI h F 4
    · obtain ⟨d1, d2⟩ := drop h S N D
      refine ⟨sI h 114 6 (gI h 114 6 + 1), fun Q => ?_, (Fr.refl h).sI _ (by unfold wRc wQ; omega), d1, d2, fun i _ k q => q⟩
      simp only [↓e_Traffic_receive_0, ↓e_Traffic_receive_1, ↓e_Traffic_receive_4, ↓e_Traffic_receive_5, ↓e_Traffic_receive_8, ↓e_Traffic_receive_9, ↓e_Traffic_receive_10, ↓e_Traffic_receive_13, ↓e_Traffic_receive_14, ↓e_Traffic_receive_15, ↓e_Traffic_receive_18, ↓e_Traffic_receive_20, ↓e_Traffic_receive_23, ↓e_Traffic_receive_24, ↓e_Traffic_receive_27, ↓e_Traffic_receive_30, ↓e_Traffic_receive_31, ↓e_Traffic_receive_32, ↓e_Traffic_receive_35, ↓e_Traffic_receive_36, ↓e_Traffic_receive_39, ↓e_Traffic_receive_42, ↓e_Traffic_receive_43, ↓e_Traffic_receive_44, ↓e_Traffic_receive_47, ↓e_Traffic_receive_48, ↓e_Traffic_receive_49, ↓e_Traffic_receive_52, not_true_eq_false, not_false_eq_true, one0, true_or, or_true, eq_self, bI_z, bI_nz, bI_o, b_ft, bI_1, bI_0, ↓kC_l, ↓kC_r, Option.toList_some, Option.toList_none, List.cons_append, List.nil_append, s1_0, s1_1i, s1_1r, s1_1w, s1_1n, s1_s, s2_0, s2_1i, s2_1r, s2_1w, s2_1n, s2_s, gI_sI, gI_sR, gI_sL, gI_sD, gR_sI, gR_sR, gR_sL, gR_sD, gL_sI, gL_sR, gL_sL, gL_sD, gD_sI, gD_sR, gD_sL, gD_sD, isK_sI, isK_sR, isK_sL, isK_sD, inL_sI, inL_sR, inL_sL, inL_sD, nx_sI, nx_sR, nx_sL, nx_sD, kd_sI, kd_sR, kd_sL, kd_sD, ln_sI, ln_sR, ln_sL, ln_sD, ↓reduceIte, c8_n, c8_1, c8_2, c8_3, c8_4, Nat.reduceAdd, k_s S, k_land S, k_nodes S, k_hear S, k_routes S, k_traffic S, k_market S, g_cnt S, r_land S, r_routes S, r_traffic S, r_market S, r_nodes S, r_hear S, r_rland S, r_tland S, r_troutes S, hF, b3, hne, h7]
    · obtain ⟨b, g, r1, r2, r3, r4⟩ := q_pushCopy S hj8 (N j hj).1 hF W
      have Sg : Str n g := S.fr r2 (by unfold wQ; omega)
      have Ng : ∀ i, i < n → NI n g i := fun i hi => by
        by_cases e : i = j
        · subst e
          obtain ⟨V1, V2, V3, V4⟩ := N i hi
          refine ⟨r3, by rw [r2.1 _ _ (by unfold wQ; omega)]; exact V2, ?_, ?_⟩
          · obtain ⟨tc, t1, t2, t3⟩ := V3
            refine ⟨tc, t1, by rw [r2.1 _ _ (by unfold wQ; omega)]; exact t2, fun q => ?_⟩
            exact r4 (t3 q)
          · obtain ⟨s9, s1, s2, s3⟩ := V4
            exact ⟨s9, s1, by rw [r2.1 _ _ (by unfold wQ; omega)]; exact s2, fun k p1 p2 => by unfold mb; rw [r2.2.2.1 _ _ (fun q => q)]; exact s3 k p1 p2⟩
        · exact (N i hi).fr hi (fun a k p q => r2.1 _ _ (by unfold wQ; omega)) (fun x hx => r2.1 _ _ (by unfold wQ; omega)) (r2.1 _ _ (by unfold wQ; omega)) (fun k => r2.2.1 _ _ (fun q => q)) (fun k q => r2.1 _ _ (by unfold wQ; omega)) (fun k => r2.2.2.1 _ _ (fun q => q))
      have Dg : DS n g := D.fr (r2.1 _ _ (by unfold wQ; omega)) (fun i k hi => r2.2.2.1 _ _ (fun q => q))
      cases b with
      | true =>
        refine ⟨g, fun Q => ?_, r2.mono (fun a k q => Or.inr q) (fun _ _ q => q) (fun _ _ q => q.elim), Ng, Dg, MD.fr r2⟩
        simp only [↓e_Traffic_receive_0, ↓e_Traffic_receive_1, ↓e_Traffic_receive_4, ↓e_Traffic_receive_5, ↓e_Traffic_receive_8, ↓e_Traffic_receive_9, ↓e_Traffic_receive_10, ↓e_Traffic_receive_13, ↓e_Traffic_receive_14, ↓e_Traffic_receive_15, ↓e_Traffic_receive_18, ↓e_Traffic_receive_20, ↓e_Traffic_receive_23, ↓e_Traffic_receive_24, ↓e_Traffic_receive_27, ↓e_Traffic_receive_30, ↓e_Traffic_receive_31, ↓e_Traffic_receive_32, ↓e_Traffic_receive_35, ↓e_Traffic_receive_36, ↓e_Traffic_receive_39, ↓e_Traffic_receive_42, ↓e_Traffic_receive_43, ↓e_Traffic_receive_44, ↓e_Traffic_receive_47, ↓e_Traffic_receive_48, ↓e_Traffic_receive_49, ↓e_Traffic_receive_52, not_true_eq_false, not_false_eq_true, one0, true_or, or_true, eq_self, bI_z, bI_nz, bI_o, b_ft, bI_1, bI_0, ↓kC_l, ↓kC_r, Option.toList_some, Option.toList_none, List.cons_append, List.nil_append, s1_0, s1_1i, s1_1r, s1_1w, s1_1n, s1_s, s2_0, s2_1i, s2_1r, s2_1w, s2_1n, s2_s, gI_sI, gI_sR, gI_sL, gI_sD, gR_sI, gR_sR, gR_sL, gR_sD, gL_sI, gL_sR, gL_sL, gL_sD, gD_sI, gD_sR, gD_sL, gD_sD, isK_sI, isK_sR, isK_sL, isK_sD, inL_sI, inL_sR, inL_sL, inL_sD, nx_sI, nx_sR, nx_sL, nx_sD, kd_sI, kd_sR, kd_sL, kd_sD, ln_sI, ln_sR, ln_sL, ln_sD, ↓reduceIte, c8_n, c8_1, c8_2, c8_3, c8_4, Nat.reduceAdd, k_s S, k_land S, k_nodes S, k_hear S, k_routes S, k_traffic S, k_market S, g_cnt S, r_land S, r_routes S, r_traffic S, r_market S, r_nodes S, r_hear S, r_rland S, r_tland S, r_troutes S, l_nodes S hj8, l_hear S hj8, r_node S hj8, r_queue S hj8, r_set S hj8, r_frames S hj8, r_bits S hj8, k_node S hj8, k_queue S hj8, k_frames S hj8, k_set S hj8, k_bits S hj8, ii_nat (lt31 hj8), hF, b3, hne, h7, r1, Bool.true_eq_false]
      | false =>
        obtain ⟨d1, d2⟩ := drop g Sg Ng Dg
        refine ⟨sI g 114 6 (gI g 114 6 + 1), fun Q => ?_, (r2.mono (fun a k q => Or.inr q) (fun _ _ q => q) (fun _ _ q => q.elim)).sI _ (Or.inl ⟨rfl, by omega, by omega⟩), d1, d2, (MD.fr r2).trans (fun _ _ _ q => q)⟩
        simp only [↓e_Traffic_receive_0, ↓e_Traffic_receive_1, ↓e_Traffic_receive_4, ↓e_Traffic_receive_5, ↓e_Traffic_receive_8, ↓e_Traffic_receive_9, ↓e_Traffic_receive_10, ↓e_Traffic_receive_13, ↓e_Traffic_receive_14, ↓e_Traffic_receive_15, ↓e_Traffic_receive_18, ↓e_Traffic_receive_20, ↓e_Traffic_receive_23, ↓e_Traffic_receive_24, ↓e_Traffic_receive_27, ↓e_Traffic_receive_30, ↓e_Traffic_receive_31, ↓e_Traffic_receive_32, ↓e_Traffic_receive_35, ↓e_Traffic_receive_36, ↓e_Traffic_receive_39, ↓e_Traffic_receive_42, ↓e_Traffic_receive_43, ↓e_Traffic_receive_44, ↓e_Traffic_receive_47, ↓e_Traffic_receive_48, ↓e_Traffic_receive_49, ↓e_Traffic_receive_52, not_true_eq_false, not_false_eq_true, one0, true_or, or_true, eq_self, bI_z, bI_nz, bI_o, b_ft, bI_1, bI_0, ↓kC_l, ↓kC_r, Option.toList_some, Option.toList_none, List.cons_append, List.nil_append, s1_0, s1_1i, s1_1r, s1_1w, s1_1n, s1_s, s2_0, s2_1i, s2_1r, s2_1w, s2_1n, s2_s, gI_sI, gI_sR, gI_sL, gI_sD, gR_sI, gR_sR, gR_sL, gR_sD, gL_sI, gL_sR, gL_sL, gL_sD, gD_sI, gD_sR, gD_sL, gD_sD, isK_sI, isK_sR, isK_sL, isK_sD, inL_sI, inL_sR, inL_sL, inL_sD, nx_sI, nx_sR, nx_sL, nx_sD, kd_sI, kd_sR, kd_sL, kd_sD, ln_sI, ln_sR, ln_sL, ln_sD, ↓reduceIte, c8_n, c8_1, c8_2, c8_3, c8_4, Nat.reduceAdd, k_s S, k_land S, k_nodes S, k_hear S, k_routes S, k_traffic S, k_market S, g_cnt S, r_land S, r_routes S, r_traffic S, r_market S, r_nodes S, r_hear S, r_rland S, r_tland S, r_troutes S, l_nodes S hj8, l_hear S hj8, r_node S hj8, r_queue S hj8, r_set S hj8, r_frames S hj8, r_bits S hj8, k_node S hj8, k_queue S hj8, k_frames S hj8, k_set S hj8, k_bits S hj8, ii_nat (lt31 hj8), hF, b3, hne, h7, r1, k_traffic Sg]
end TU
