/-! plawc: knock; a turn of the law; the law runs -/
section LWC
variable {n B T L : Nat} {h : Hp}
theorem AI.knk (A : AI n h) (v : Int32) : AI n (sI h 1 4 v) := by
  obtain ⟨S, ⟨H, c, R, I1, I2⟩, N, ⟨lk, l1, l2⟩, D⟩ := id A
  have hn := n8 S
  have hcc := R.1
  have eI : ∀ a k, a ≠ 1 → gI (sI h 1 4 v) a k = gI h a k := fun a k ha => by rw [gI_sI, if_neg (by omega)]
  have eR : ∀ a k, a < 121 → gR (sI h 1 4 v) a k = gR h a k := fun _ _ _ => rfl
  have eL : ∀ a k, a < 121 → gL (sI h 1 4 v) a k = gL h a k := fun _ _ _ => rfl
  have ek : ∀ a, a < 121 → kd (sI h 1 4 v) a = kd h a ∧ ln (sI h 1 4 v) a = ln h a := fun _ _ => ⟨rfl, rfl⟩
  have hx : 121 ≤ nx (sI h 1 4 v) := S.1.1
  refine ⟨?_, ⟨H.fr fun k => eI _ _ (by omega), c, R.fr fun k => eR _ _ (by omega), I1.fr (fun a b ha hb => eI _ _ (by omega)) (fun a b ha hb => eI _ _ (by omega)), I2.fr (fun a b ha hb => eI _ _ (by omega)) (fun a b ha hb => eI _ _ (by omega))⟩,
    fun j hj => (N j hj).fr hj (fun a k p q => eI _ _ (by omega)) (fun x hx => eI _ _ (by omega)) (eI _ _ (by omega)) (fun k => eR _ _ (by omega)) (fun k q => eI _ _ (by omega)) (fun k => eL _ _ (by omega)),
    ⟨lk, l1, by rw [eI _ _ (by omega)]; exact l2⟩, D.fr (eI _ _ (by omega)) (fun j k hj => eL _ _ (by omega))⟩
  obtain ⟨s1, s2, s3, s4, s5, s6, s7, s8, s9, s10⟩ := S
  refine ⟨⟨hx, fun a p q => by rw [(ek a q).1, (ek a q).2]; exact s1.2 a p q⟩, ⟨s2.1, by rw [eI 2 2 (by omega)]; exact s2.2⟩, ?_, ?_, fun j hj => ?_, fun j hj k hk => ?_, ?_, ?_, fun j hj => ?_, ?_⟩
  · rw [eR _ _ (by omega), eR _ _ (by omega), eR _ _ (by omega), eR _ _ (by omega)]; exact s3
  · rw [eR _ _ (by omega), eR _ _ (by omega)]; exact s4
  · rw [eR _ _ (by omega), eR _ _ (by omega), eR _ _ (by omega), eR _ _ (by omega), eR _ _ (by omega)]; exact s5 j hj
  · rw [eR _ _ (by omega)]; exact s6 j hj k hk
  · rw [eR _ _ (by omega), eR _ _ (by omega), eR _ _ (by omega)]; exact s7
  · rw [eR _ _ (by omega), eR _ _ (by omega), eR _ _ (by omega), eR _ _ (by omega), eR _ _ (by omega)]; exact s8
  · rw [eR _ _ (by omega), eR _ _ (by omega), eR _ _ (by omega), eR _ _ (by omega)]; exact s9 j hj
  · rw [eR _ _ (by omega), eR _ _ (by omega), eR _ _ (by omega), eR _ _ (by omega)]; exact s10
theorem LV.knk (L : LV n B T h) (v : Int32) : LV n B T (sI h 1 4 v) := by
  obtain ⟨⟨A, c, c1, c2, M⟩, C, V, sl⟩ := L
  have hn := n8 A.1
  have eI : ∀ a k, a ≠ 1 → gI (sI h 1 4 v) a k = gI h a k := fun a k ha => by rw [gI_sI, if_neg (by omega)]
  refine ⟨⟨A.knk v, c, c1, by rw [eI 115 5 (by omega)]; exact c2, M.of fun a k p q => eI a k (by omega)⟩, C.fr fun x f hx _ _ => eI _ _ (by omega), fun x hx => ?_, by rw [eI 114 2 (by omega)]; exact sl⟩
  obtain ⟨s, s1, s2⟩ := V x hx
  exact ⟨s, s1, by rw [eI _ _ (by omega)]; exact s2⟩
theorem FN.knk (W : FN n h) (v : Int32) : FN n (sI h 1 4 v) := fun i h1 h2 => by
  obtain ⟨x, y, z⟩ := W i h1 h2
  have eI : ∀ a k, a ≠ 1 → gI (sI h 1 4 v) a k = gI h a k := fun a k ha => by rw [gI_sI, if_neg (by omega)]
  exact ⟨by rw [eI _ _ (by omega)]; exact x, fun k p q r s => by rw [eI _ _ (by omega)]; exact y k p q r s, fun k q => z k q⟩
theorem d_knock (I : LI L T h) (hT : 5 * T + 5 ≤ L) (hL : L ≤ 2560) (w5 w6 w7 w8 : Option MV) : ∃ h2 v5 v6 v7 v8, (∀ Q, WP Gm j_Law_law 728 [some (.inr (.inl (some 0))), some (.inr (.inl (some 1))), some (.inr (.inl (some 121))), some (.inr (.inl (some 125))), some (.inl (ii (5 * T))), w5, w6, w7, w8] [] h Q = WP Gm j_Law_law 1549 [some (.inr (.inl (some 0))), some (.inr (.inl (some 1))), some (.inr (.inl (some 121))), some (.inr (.inl (some 125))), some (.inl (ii (5 * T))), v5, v6, v7, v8] [] h2 Q) ∧ LI L (T + 1) h2 := by
  obtain ⟨n, B, τ, p, c, b9, x9, p9, m, α, Lv, hB, W, R, O, t125, ⟨s1, s2⟩, rn, rs, M, V, Cv, Rv⟩ := I
  have b2 := R.b2
  have cb := R.cb
  have S := Lv.1.1.1
  have F := R.F
  have L1 := Lv.knk (gI h 1 4 + 1)
  have W1 := W.knk (gI h 1 4 + 1)
  have R1 : RM τ n p (8 * B) c B (gI h 1 4) (sI h 1 4 (gI h 1 4 + 1)) := R.f01 (Ext.same (fun _ => rfl) (fun _ => rfl) rfl) (F.same (Nat.le_refl _)) ((Ag.refl _ h).sI (Or.inl (F.2.2.1 1 (by omega)))) (fun f hf => F.lt (by omega)) (fun f hf => F.lt (by omega)) (fun f hf => F.lt (by omega))
  have e14 : gI (sI h 1 4 (gI h 1 4 + 1)) 1 4 = gI h 1 4 + 1 := by rw [gI_sI, if_pos ⟨rfl, rfl⟩]
  have e1 := fun Q => q_knock (h := h) Q (k_s S)
  have O1 : isK (sI h 1 4 (gI h 1 4 + 1)) 125 kc_Out = true := O
  have s1' : isK (sI h 1 4 (gI h 1 4 + 1)) 0 100 = true := s1
  have s2' : ln (sI h 1 4 (gI h 1 4 + 1)) 0 = L := s2
  have rn' : nx (sI h 1 4 (gI h 1 4 + 1)) = nx h := rfl
  have rs' : sc (sI h 1 4 (gI h 1 4 + 1)) = sc h := rfl
  have M1 : MX b9 x9 p9 m (sI h 1 4 (gI h 1 4 + 1)) := M.of fun a k h1 h2 => by rw [gI_sI, if_neg (by omega)]
  have V1 : BB τ b9 x9 p9 m (sI h 1 4 (gI h 1 4 + 1)) := V.fr (S := fun s => s = 0 ∨ s = 1) F (Ext.same (fun _ => rfl) (fun _ => rfl) rfl) ((Ag.refl _ h).sI (Or.inl (F.2.2.1 1 (by omega)))) (by omega) (by omega) (by omega)
  have C1 : CA n (sI h 1 4 (gI h 1 4 + 1)) α := Cv.ka (n8 S) ⟨fun a k _ _ => by rw [gI_sI, if_neg (by omega)], by rw [gI_sI, if_neg (by omega)], fun _ _ _ => rfl, fun _ _ _ => rfl⟩
  have A1 : RA τ n p c B (sI h 1 4 (gI h 1 4 + 1)) α := Rv.fr (S := fun s => s = 0 ∨ s = 1) R (Ext.same (fun _ => rfl) (fun _ => rfl) rfl) ((Ag.refl _ h).sI (Or.inl (F.2.2.1 1 (by omega)))) (by omega)
  have hn8 := n8 S
  generalize sI h 1 4 (gI h 1 4 + 1) = h1 at *
  have e2 := fun Q => q_mknock (h := h1) (m := 121) Q R1.k
  have eK : gI h1 121 8 = gI h 1 4 := R1.kn
  have R2 := R1.knk (gI h 1 4 + 1)
  have h121 : 121 ≤ nx h1 := L1.1.1.1.1.1
  have E : ∀ a k, a < 121 → gI (sI (sI h1 121 0 0) 121 8 (gI h 1 4 + 1)) a k = gI h1 a k ∧ gR (sI (sI h1 121 0 0) 121 8 (gI h 1 4 + 1)) a k = gR h1 a k ∧ gL (sI (sI h1 121 0 0) 121 8 (gI h 1 4 + 1)) a k = gL h1 a k := fun a k ha => ⟨by rw [gI_sI, if_neg (by omega), gI_sI, if_neg (by omega)], rfl, rfl⟩
  have r1 : nx (sI (sI h1 121 0 0) 121 8 (gI h 1 4 + 1)) = nx h1 := rfl
  have r2 : sc (sI (sI h1 121 0 0) 121 8 (gI h 1 4 + 1)) = sc h1 := rfl
  refine ⟨sI (sI h1 121 0 0) 121 8 (gI h 1 4 + 1), w5, w6, w7, w8, fun Q => ?_, n, B, τ, p, c, b9, x9, p9, m, asV α 50 1 0, (L1.up E (fun _ _ => ⟨rfl, rfl⟩) (by omega)).next, hB, W1.up E, by rw [(E 1 4 (by omega)).1, e14]; exact R2, O1, t125, ⟨s1', s2'⟩, by omega, by omega, M1.of fun a k _ h2 => (E a k h2).1, V1.fr (S := fun s => s = 2) R1.F (Ext.same (fun _ => rfl) (fun _ => rfl) rfl) (((Ag.refl _ h1).sI R1.t1).sI R1.t1) (by omega) (by omega) (by omega), (C1.ka hn8 ⟨fun a k _ h => (E a k (by omega)).1, (E 115 8 (by omega)).1, fun a k h => (E a k (by omega)).2.1, fun a k h => (E a k (by omega)).2.2⟩).t hn8 0, (A1.th R1 0).keepG (R1.sw (R1.sth 0)) (by omega) _⟩
  simp only [↓e_Law_law_728, ↓e_Law_law_729, ↓e_Law_law_732, ↓e_Law_law_733, ↓e_Law_law_736, ↓e_Law_law_739, ↓e_Law_law_740, not_true_eq_false, not_false_eq_true, one0, true_or, or_true, eq_self, bI_z, bI_nz, bI_o, b_ft, bI_1, bI_0, ↓kC_l, ↓kC_r, Option.toList_some, Option.toList_none, List.cons_append, List.nil_append, s1_0, s1_1i, s1_1r, s1_1w, s1_1n, s1_s, s2_0, s2_1i, s2_1r, s2_1w, s2_1n, s2_s, gI_sI, gI_sR, gI_sL, gI_sD, gR_sI, gR_sR, gR_sL, gR_sD, gL_sI, gL_sR, gL_sL, gL_sD, gD_sI, gD_sR, gD_sL, gD_sD, isK_sI, isK_sR, isK_sL, isK_sD, inL_sI, inL_sR, inL_sL, inL_sD, nx_sI, nx_sR, nx_sL, nx_sD, kd_sI, kd_sR, kd_sL, kd_sD, ln_sI, ln_sR, ln_sL, ln_sD, ↓reduceIte, c8_n, c8_1, c8_2, c8_3, c8_4, Nat.reduceAdd, k_s S, e1, R1.k, e2, eK]
theorem tsw24 (v : Int32) : tsw 0 [152, 261, 342, 439, 520, 577, 634, 715, 728, 741, 817, 886, 967, 1048, 1105, 1181, 1222, 1238, 1307, 1395, 1452, 1509, 1522, 1535] 1549 (v &&& 31) ∈ [152, 261, 342, 439, 520, 577, 634, 715, 728, 741, 817, 886, 967, 1048, 1105, 1181, 1222, 1238, 1307, 1395, 1452, 1509, 1522, 1535, 1549] := by
  have e : v &&& 31 = ii (v.toBitVec.toNat % 32) := by
    apply Int32.toBitVec_inj.mp
    apply BitVec.eq_of_toNat_eq
    rw [Int32.toBitVec_and, BitVec.toNat_and, show (31 : Int32).toBitVec.toNat = 2 ^ 5 - 1 by decide, Nat.and_two_pow_sub_one_eq_mod]
    show _ = (BitVec.ofNat 32 (v.toBitVec.toNat % 32)).toNat
    rw [BitVec.toNat_ofNat, Nat.mod_eq_of_lt (a := v.toBitVec.toNat % 32) (by omega)]
  rw [e]
  have all : ∀ k, k < 32 → tsw 0 [152, 261, 342, 439, 520, 577, 634, 715, 728, 741, 817, 886, 967, 1048, 1105, 1181, 1222, 1238, 1307, 1395, 1452, 1509, 1522, 1535] 1549 (ii k) ∈ [152, 261, 342, 439, 520, 577, 634, 715, 728, 741, 817, 886, 967, 1048, 1105, 1181, 1222, 1238, 1307, 1395, 1452, 1509, 1522, 1535, 1549] := by decide +kernel
  exact all _ (by omega)
theorem law_cond {L T : Nat} (hL : L ≤ 2560) (hT : T ≤ 512) : (ii L - 5 < ii (5 * T)) = (L < 5 * T + 5) := by
  by_cases h5 : 5 ≤ L
  · have e : ii L - 5 = ii (L - 5) := by
      have e2 : (5 : Int32) = ii 5 := rfl
      rw [e2, ii_jj, ii_jj, ii_jj, jj_sub]
      exact congrArg jj (by omega)
    rw [e, ii_lt (by omega) (by omega)]
    exact propext ⟨fun _ => by omega, fun _ => by omega⟩
  · have z : (0 : Int32) ≤ ii (5 * T) := by
      rw [show (0 : Int32) = ii 0 from rfl, ii_le (by omega) (by omega)]
      omega
    have neg : ii L - 5 < 0 := by
      have : L = 0 ∨ L = 1 ∨ L = 2 ∨ L = 3 ∨ L = 4 := by omega
      rcases this with rfl | rfl | rfl | rfl | rfl <;> decide
    exact propext ⟨fun _ => by omega, fun _ => Int32.lt_of_lt_of_le neg z⟩
theorem t_turn (I : LI L T h) (hT : 5 * T + 5 ≤ L) (hL : L ≤ 2560) (w5 w6 w7 w8 : Option MV) : ∃ h2 v5 v6 v7 v8, (∀ Q, WP Gm j_Law_law 27 [some (.inr (.inl (some 0))), some (.inr (.inl (some 1))), some (.inr (.inl (some 121))), some (.inr (.inl (some 125))), some (.inl (ii (5 * T))), w5, w6, w7, w8] [] h Q = WP Gm j_Law_law 27 [some (.inr (.inl (some 0))), some (.inr (.inl (some 1))), some (.inr (.inl (some 121))), some (.inr (.inl (some 125))), some (.inl (ii (5 * (T + 1)))), v5, v6, v7, v8] [] h2 Q) ∧ LI L (T + 1) h2 := by
  have s1 : isK h 0 100 = true ∧ ln h 0 = L := by
    obtain ⟨n, B, τ, p, c, b9, x9, p9, m, α, Lv, hB, W, R, O, t125, s, -⟩ := I
    exact s
  have hM := tsw24 (gI h 0 (5 * T))
  have j0 : inL h 0 (ii (5 * T)) = true := inL_n (by omega) (by rw [s1.2]; omega)
  have t0 : (ii (5 * T)).toNatClampNeg = 5 * T := ii_nat (by omega)
  have el : Int32.ofNat L = ii L := rfl
  have hc : (ii L - 5 < ii (5 * T)) = False := by rw [law_cond hL (by omega)]; exact eq_false (by omega)
  have pre : ∀ Q, WP Gm j_Law_law 27 [some (.inr (.inl (some 0))), some (.inr (.inl (some 1))), some (.inr (.inl (some 121))), some (.inr (.inl (some 125))), some (.inl (ii (5 * T))), w5, w6, w7, w8] [] h Q = WP Gm j_Law_law (tsw 0 [152, 261, 342, 439, 520, 577, 634, 715, 728, 741, 817, 886, 967, 1048, 1105, 1181, 1222, 1238, 1307, 1395, 1452, 1509, 1522, 1535] 1549 (gI h 0 (5 * T) &&& 31)) [some (.inr (.inl (some 0))), some (.inr (.inl (some 1))), some (.inr (.inl (some 121))), some (.inr (.inl (some 125))), some (.inl (ii (5 * T))), w5, w6, w7, w8] [] h Q := fun Q => by
    simp only [e_Law_law_27, e_Law_law_29, ↓e_Law_law_30, ↓e_Law_law_31, ↓e_Law_law_32, ↓e_Law_law_33, ↓e_Law_law_36, ↓e_Law_law_37, ↓e_Law_law_39, ↓e_Law_law_40, ↓e_Law_law_42, e_Law_law_43, not_true_eq_false, not_false_eq_true, one0, true_or, or_true, eq_self, bI_z, bI_nz, bI_o, b_ft, bI_1, bI_0, ↓kC_l, ↓kC_r, Option.toList_some, Option.toList_none, List.cons_append, List.nil_append, s1_0, s1_1i, s1_1r, s1_1w, s1_1n, s1_s, s2_0, s2_1i, s2_1r, s2_1w, s2_1n, s2_s, gI_sI, gI_sR, gI_sL, gI_sD, gR_sI, gR_sR, gR_sL, gR_sD, gL_sI, gL_sR, gL_sL, gL_sD, gD_sI, gD_sR, gD_sL, gD_sD, isK_sI, isK_sR, isK_sL, isK_sD, inL_sI, inL_sR, inL_sL, inL_sD, nx_sI, nx_sR, nx_sL, nx_sD, kd_sI, kd_sR, kd_sL, kd_sD, ln_sI, ln_sR, ln_sL, ln_sD, ↓reduceIte, c8_n, c8_1, c8_2, c8_3, c8_4, Nat.reduceAdd, s1.1, s1.2, el, hc, j0, t0]
  have post : ∀ (g : Hp) (v5 v6 v7 v8 : Option MV) Q, WP Gm j_Law_law 1549 [some (.inr (.inl (some 0))), some (.inr (.inl (some 1))), some (.inr (.inl (some 121))), some (.inr (.inl (some 125))), some (.inl (ii (5 * T))), v5, v6, v7, v8] [] g Q = WP Gm j_Law_law 27 [some (.inr (.inl (some 0))), some (.inr (.inl (some 1))), some (.inr (.inl (some 121))), some (.inr (.inl (some 125))), some (.inl (ii (5 * (T + 1)))), v5, v6, v7, v8] [] g Q := fun g v5 v6 v7 v8 Q => by
    have e5 : ii (5 * T) + 5 = ii (5 * (T + 1)) := ii_add _ 5
    simp only [e_Law_law_1549, e_Law_law_1552, not_true_eq_false, not_false_eq_true, one0, true_or, or_true, eq_self, bI_z, bI_nz, bI_o, b_ft, bI_1, bI_0, ↓kC_l, ↓kC_r, Option.toList_some, Option.toList_none, List.cons_append, List.nil_append, s1_0, s1_1i, s1_1r, s1_1w, s1_1n, s1_s, s2_0, s2_1i, s2_1r, s2_1w, s2_1n, s2_s, gI_sI, gI_sR, gI_sL, gI_sD, gR_sI, gR_sR, gR_sL, gR_sD, gL_sI, gL_sR, gL_sL, gL_sD, gD_sI, gD_sR, gD_sL, gD_sD, isK_sI, isK_sR, isK_sL, isK_sD, inL_sI, inL_sR, inL_sL, inL_sD, nx_sI, nx_sR, nx_sL, nx_sD, kd_sI, kd_sR, kd_sL, kd_sD, ln_sI, ln_sR, ln_sL, ln_sD, ↓reduceIte, c8_n, c8_1, c8_2, c8_3, c8_4, Nat.reduceAdd, e5]
  have fin : ∀ P, (∃ h2 v5 v6 v7 v8, (∀ Q, WP Gm j_Law_law P [some (.inr (.inl (some 0))), some (.inr (.inl (some 1))), some (.inr (.inl (some 121))), some (.inr (.inl (some 125))), some (.inl (ii (5 * T))), w5, w6, w7, w8] [] h Q = WP Gm j_Law_law 1549 [some (.inr (.inl (some 0))), some (.inr (.inl (some 1))), some (.inr (.inl (some 121))), some (.inr (.inl (some 125))), some (.inl (ii (5 * T))), v5, v6, v7, v8] [] h2 Q) ∧ LI L (T + 1) h2) → tsw 0 [152, 261, 342, 439, 520, 577, 634, 715, 728, 741, 817, 886, 967, 1048, 1105, 1181, 1222, 1238, 1307, 1395, 1452, 1509, 1522, 1535] 1549 (gI h 0 (5 * T) &&& 31) = P → ∃ h2 v5 v6 v7 v8, (∀ Q, WP Gm j_Law_law 27 [some (.inr (.inl (some 0))), some (.inr (.inl (some 1))), some (.inr (.inl (some 121))), some (.inr (.inl (some 125))), some (.inl (ii (5 * T))), w5, w6, w7, w8] [] h Q = WP Gm j_Law_law 27 [some (.inr (.inl (some 0))), some (.inr (.inl (some 1))), some (.inr (.inl (some 121))), some (.inr (.inl (some 125))), some (.inl (ii (5 * (T + 1)))), v5, v6, v7, v8] [] h2 Q) ∧ LI L (T + 1) h2 := fun P ⟨h2, v5, v6, v7, v8, e, J⟩ eP => ⟨h2, v5, v6, v7, v8, fun Q => by rw [pre, eP, e, post], J⟩
  simp only [List.mem_cons, List.not_mem_nil, or_false] at hM
  rcases hM with hM | hM | hM | hM | hM | hM | hM | hM | hM | hM | hM | hM | hM | hM | hM | hM | hM | hM | hM | hM | hM | hM | hM | hM | hM
  · exact fin _ (d_node I hT hL w5 w6 w7 w8) hM
  · exact fin _ (d_move I hT hL w5 w6 w7 w8) hM
  · exact fin _ (d_tune I hT hL w5 w6 w7 w8) hM
  · exact fin _ (d_send I hT hL w5 w6 w7 w8) hM
  · exact fin _ (d_pass I hT hL w5 w6 w7 w8) hM
  · exact fin _ (d_exchange I hT hL w5 w6 w7 w8) hM
  · exact fin _ (d_bid I hT hL w5 w6 w7 w8) hM
  · exact fin _ (d_sell I hT hL w5 w6 w7 w8) hM
  · exact fin _ (d_knock I hT hL w5 w6 w7 w8) hM
  · exact fin _ (d_hears I hT hL w5 w6 w7 w8) hM
  · exact fin _ (d_ofNode I hT hL w5 w6 w7 w8) hM
  · exact fin _ (d_inQueue I hT hL w5 w6 w7 w8) hM
  · exact fin _ (d_route I hT hL w5 w6 w7 w8) hM
  · exact fin _ (d_air I hT hL w5 w6 w7 w8) hM
  · exact fin _ (d_delivered I hT hL w5 w6 w7 w8) hM
  · exact fin _ (d_fairness I hT hL w5 w6 w7 w8) hM
  · exact fin _ (d_row I hT hL w5 w6 w7 w8) hM
  · exact fin _ (d_would I hT hL w5 w6 w7 w8) hM
  · exact fin _ (d_throughput I hT hL w5 w6 w7 w8) hM
  · exact fin _ (d_bestChance I hT hL w5 w6 w7 w8) hM
  · exact fin _ (d_auction I hT hL w5 w6 w7 w8) hM
  · exact fin _ (d_cover I hT hL w5 w6 w7 w8) hM
  · exact fin _ (d_isSound I hT hL w5 w6 w7 w8) hM
  · exact fin _ (d_digest I hT hL w5 w6 w7 w8) hM
  · refine fin _ ⟨h, w5, w6, w7, w8, fun Q => rfl, ?_⟩ hM
    obtain ⟨n, B, τ, p, c, b9, x9, p9, m, α, Lv, hB, W, R, O, t125, s, rn, rs, M, V, Cv, Rv⟩ := I
    exact ⟨n, B, τ, p, c, b9, x9, p9, m, α, Lv.next, hB, W, R, O, t125, s, by omega, by omega, M, V, Cv, Rv⟩
theorem mdl9_low {g : Hp} (hn : nx h = 122) (hg : mdl9 (mdl9 (mdl9 (sI h 121 2 41) 122 121 9) 123 121 10) 124 121 11 = g) : (∀ a k, a < 121 → gI g a k = gI h a k ∧ gR g a k = gR h a k ∧ gL g a k = gL h a k) ∧ (∀ a, a < 122 → kd g a = kd h a ∧ ln g a = ln h a) ∧ nx g = 125 ∧ sc g = sc h + 9 := by
  have n0 : nx (sI h 121 2 41) = 122 := hn
  have n1 := nx_mdl9 (a := 121) (k := 9) n0
  have n2 := nx_mdl9 (a := 121) (k := 10) n1
  have n3 := nx_mdl9 (a := 121) (k := 11) n2
  subst hg
  refine ⟨fun a k ha => ⟨?_, ?_, ?_⟩, fun a ha => ⟨?_, ?_⟩, n3, by rw [sc_mdl9, sc_mdl9, sc_mdl9]; rfl⟩
  · rw [gI_mdl9 n2, if_neg (by omega), gI_mdl9 n1, if_neg (by omega), gI_mdl9 n0, if_neg (by omega), gI_sI, if_neg (by omega)]
  · rw [gR_mdl9 n2, if_neg (by omega), if_neg (by omega), gR_mdl9 n1, if_neg (by omega), if_neg (by omega), gR_mdl9 n0, if_neg (by omega), if_neg (by omega), gR_sI]
  · rw [gL_mdl9 n2, if_neg (by omega), gL_mdl9 n1, if_neg (by omega), gL_mdl9 n0, if_neg (by omega), gL_sI]
  · rw [kd_mdl9 n2, if_neg (by omega), kd_mdl9 n1, if_neg (by omega), kd_mdl9 n0, if_neg (by omega), kd_sI]
  · rw [ln_mdl9 n2, if_neg (by omega), ln_mdl9 n1, if_neg (by omega), ln_mdl9 n0, if_neg (by omega), ln_sI]
theorem law_start {L : Nat} (xs : Nat → Int32) : ∃ h, (∀ Q, WP Gm j_Law_law 0 (entL [.inr (.inl (some 0))] 9) [] (H0 L xs) Q = WP Gm j_Law_law 27 [some (.inr (.inl (some 0))), some (.inr (.inl (some 1))), some (.inr (.inl (some 121))), some (.inr (.inl (some 125))), some (.inl (ii (5 * 0))), none, none, none, none] [] h Q) ∧ LI L 0 h := by
  generalize hh : H0 L xs = h
  have nh : nx h = 1 := by rw [← hh]; rfl
  have sh : sc h = 0 := by rw [← hh]; rfl
  have kh : kd h 0 = 100 := by rw [← hh]; rfl
  have lh : ln h 0 = L := by rw [← hh]; rfl
  generalize hh1 : hN h kc_S 0 5 = h1
  have n1 : nx h1 = 2 := by rw [← hh1, nx_hN, nh]
  have s1 : sc h1 = 5 := by rw [← hh1, sc_hN, sh]
  have k1 : kd h1 1 = kc_S := by rw [← hh1, kd_hN, if_pos nh.symm]
  have k10 : kd h1 0 = 100 := by rw [← hh1, kd_hN, if_neg (by omega)]; exact kh
  have l10 : ln h1 0 = L := by rw [← hh1, ln_hN, if_neg (by omega)]; exact lh
  obtain ⟨h2, e2, S2, K2, n2, C2, W2, z2, zk, mk2⟩ := q_countryInit4 k1 n1 (by omega)
  have sc2 := K2.2.2
  have L2 : LV 0 0 0 h2 := ⟨C2, fun x hx => absurd hx (by omega), fun x hx => absurd hx (by omega), z2⟩
  generalize hh3 : hN h2 kc_Mdl 0 12 = h3
  have n3 : nx h3 = 122 := by rw [← hh3, nx_hN, n2]
  have s3 : sc h3 = sc h2 + 12 := by rw [← hh3, sc_hN]
  have k3 : kd h3 121 = kc_Mdl := by rw [← hh3, kd_hN, if_pos n2.symm]
  have z3 : ∀ k, gI h3 121 k = 0 := fun k => by rw [← hh3, gI_hN, if_pos n2.symm]
  have R4 := rm_start k3 n3 z3
  have e4 := q_mdlInit k3 n3 (by omega)
  generalize hh4 : mdl9 (mdl9 (mdl9 (sI h3 121 2 41) 122 121 9) 123 121 10) 124 121 11 = h4 at *
  obtain ⟨E4, D4, n4, s4⟩ := mdl9_low n3 hh4
  generalize hh5 : hN h4 kc_Out 0 2 = h5
  have n5 : nx h5 = 126 := by rw [← hh5, nx_hN, n4]
  have s5 : sc h5 = sc h4 + 2 := by rw [← hh5, sc_hN]
  have k5 : isK h5 125 kc_Out = true := isK_of (by omega) (by rw [← hh5, kd_hN, if_pos n4.symm])
  have E : ∀ a k, a < 121 → gI h5 a k = gI h2 a k ∧ gR h5 a k = gR h2 a k ∧ gL h5 a k = gL h2 a k := fun a k ha => by
    obtain ⟨x1, x2, x3⟩ := E4 a k ha
    refine ⟨?_, ?_, ?_⟩
    · rw [← hh5, gI_hN, if_neg (by omega), x1, ← hh3, gI_hN, if_neg (by omega)]
    · rw [← hh5, gR_hN, if_neg (by omega), x2, ← hh3, gR_hN, if_neg (by omega)]
    · rw [← hh5, gL_hN, if_neg (by omega), x3, ← hh3, gL_hN, if_neg (by omega)]
  have R5 : RM (upr tau0 125 0) 0 (fun _ => 0) (8 * 0) 0 0 0 h5 := by
    have X : Ext tau0 h4 (upr tau0 125 0) (hN h4 kc_Out 0 2) := by
      have := Ext.newr tau0 h4 kc_Out 0 2 0
      rwa [n4] at this
    have F' : Fs (upr tau0 125 0) (hN h4 kc_Out 0 2) := by
      have := R4.F.up 0 (h' := hN h4 kc_Out 0 2) (by rw [nx_hN]; omega)
      rwa [n4] at this
    have no : ∀ r, 6 ≤ r → ∀ f, upr tau0 125 0 f = r → f < nx h4 := fun r hr f hf => by
      unfold upr at hf
      split at hf
      · omega
      · exact absurd hf (tau0_no f r hr)
    rw [← hh5]
    exact R4.f01 X F' ((Ag.refl _ h4).hN (Or.inr (R4.F.j (Nat.le_refl _)))) (no 9 (by omega)) (no 10 (by omega)) (no 11 (by omega))
  have M5 : MX (fun _ => 0) (fun _ => 0) (fun _ => 0) 0 h5 := MX.zero (by rw [(E 119 0 (by omega)).1]; exact mk2.2.2.1.2.2.2.1.2.2 0) (by rw [(E 118 0 (by omega)).1]; exact mk2.2.2.1.2.2.1.2.2 0) (by rw [(E 115 5 (by omega)).1]; exact mk2.2.2.2.1) (by rw [(E 115 6 (by omega)).1]; exact mk2.2.2.2.2.1) (by rw [(E 115 7 (by omega)).1]; exact mk2.2.2.2.2.2) (fun w _ => by rw [(E 120 w (by omega)).1]; exact mk2.2.2.1.2.2.2.2.2.2 w)
  have z124 : gI h5 124 2 = ii 0 := by
    rw [← hh5, gI_hN, if_neg (by omega), ← hh4, gI_mdl9 (nx_mdl9 (nx_mdl9 (show nx (sI h3 121 2 41) = 122 from n3))), if_pos rfl]
    rfl
  have V5 : BB (upr tau0 125 0) (fun _ => 0) (fun _ => 0) (fun _ => 0) 0 h5 := by
    obtain ⟨k, c0, k1, c1, L⟩ := R5.bl
    have e : k = 0 := by
      have := L.s.symm.trans z124
      rwa [ii_inj (by omega) (by omega)] at this
    subst e
    exact ⟨⟨by omega, fun k hk => absurd hk (by omega)⟩, c0, c1, L.mono fun j f hj _ => absurd hj (by omega)⟩
  have A5 : RA (upr tau0 125 0) 0 (fun _ => 0) 0 0 h5 α0 := ra_start R5 fun j hj => by
    have n30 : nx (sI h3 121 2 41) = 122 := n3
    rw [← hh5, gI_hN, if_neg (by omega), ← hh4, gI_mdl9 (nx_mdl9 (nx_mdl9 n30)), if_neg (by omega), gI_mdl9 (nx_mdl9 n30), if_neg (by omega), gI_mdl9 n30, if_neg (by omega), gI_sI, z3]
    by_cases e : j = 2
    · rw [if_pos ⟨rfl, e⟩, if_pos e]
    · rw [if_neg (fun w => e w.2), if_neg e]
  obtain ⟨h2', e2', C9'⟩ := q_countryInit9 k1 n1 (by omega)
  obtain ⟨-, rfl⟩ := det e2 e2'
  obtain ⟨-, cc9, Rt9, -⟩ := C2.1.2.1
  have Y5 : CA 0 h5 α0 := (ca_start C9' Rt9).ka (by omega) ⟨fun a k _ h => (E a k (by omega)).1, (E 115 8 (by omega)).1, fun a k h => (E a k (by omega)).2.1, fun a k h => (E a k (by omega)).2.2⟩
  have D : ∀ a, a < 121 → kd h5 a = kd h2 a ∧ ln h5 a = ln h2 a := fun a ha => by
    obtain ⟨x1, x2⟩ := D4 a (by omega)
    exact ⟨by rw [← hh5, kd_hN, if_neg (by omega), x1, ← hh3, kd_hN, if_neg (by omega)], by rw [← hh5, ln_hN, if_neg (by omega), x2, ← hh3, ln_hN, if_neg (by omega)]⟩
  have i0 : isK h5 0 100 = true := isK_of (by omega) (by rw [(D 0 (by omega)).1, (K2.1 0 (by omega)).1]; exact k10)
  have l0 : ln h5 0 = L := by rw [(D 0 (by omega)).2, (K2.1 0 (by omega)).2]; exact l10
  refine ⟨h5, fun Q => ?_, 0, 0, upr tau0 125 0, fun _ => 0, 0, fun _ => 0, fun _ => 0, fun _ => 0, 0, α0, L2.up E D (by omega), by omega, W2.up E, by rw [(E 1 4 (by omega)).1, zk]; exact R5, k5, upr_eq, ⟨i0, l0⟩, by omega, by omega, M5, V5, Y5, A5⟩
  have o0 : okR cM sM h 1 5 = true := ok_small (by omega) (by omega) (by omega) (by omega)
  have o2 : okR cM sM h2 1 12 = true := ok_small (by omega) (by omega) (by omega) (by omega)
  have o4 : okR cM sM h4 1 2 = true := ok_small (by omega) (by omega) (by omega) (by omega)
  have ks1 : isK h1 1 kc_S = true := isK_of (by omega) k1
  have ks3 : isK h3 121 kc_Mdl = true := isK_of (by omega) k3
  show WP Gm j_Law_law 0 [some (.inr (.inl (some 0))), none, none, none, none, none, none, none, none] [] h Q = _
  simp only [↓e_Law_law_0, ↓e_Law_law_3, ↓e_Law_law_4, ↓e_Law_law_7, ↓e_Law_law_8, ↓e_Law_law_11, ↓e_Law_law_12, ↓e_Law_law_15, ↓e_Law_law_16, ↓e_Law_law_19, ↓e_Law_law_20, ↓e_Law_law_23, ↓e_Law_law_24, ↓e_Law_law_25, ↓e_Out_init_0, ↓e_Out_init_1, ↓e_Out_init_4, not_true_eq_false, not_false_eq_true, one0, true_or, or_true, eq_self, bI_z, bI_nz, bI_o, b_ft, bI_1, bI_0, ↓kC_l, ↓kC_r, Option.toList_some, Option.toList_none, List.cons_append, List.nil_append, s1_0, s1_1i, s1_1r, s1_1w, s1_1n, s1_s, s2_0, s2_1i, s2_1r, s2_1w, s2_1n, s2_s, gI_sI, gI_sR, gI_sL, gI_sD, gR_sI, gR_sR, gR_sL, gR_sD, gL_sI, gL_sR, gL_sL, gL_sD, gD_sI, gD_sR, gD_sL, gD_sD, isK_sI, isK_sR, isK_sL, isK_sD, inL_sI, inL_sR, inL_sL, inL_sD, nx_sI, nx_sR, nx_sL, nx_sD, kd_sI, kd_sR, kd_sL, kd_sD, ln_sI, ln_sR, ln_sL, ln_sD, ↓reduceIte, c8_n, c8_1, c8_2, c8_3, c8_4, Nat.reduceAdd, o0, nh, hh1, ks1, e2, o2, n2, hh3, ks3, e4, o4, n4, hh5, k5]
  rfl
theorem lawRuns : LawRuns := fun L xs hL9 => by
  have hL : L ≤ 2560 := Nat.le_trans hL9 (by decide)
  obtain ⟨h, e0, I⟩ := law_start (L := L) xs
  obtain ⟨⟨u, w5, w6, w7, w8⟩, e1, J⟩ := loopR (fun Q T (x : Hp × Option MV × Option MV × Option MV × Option MV) => WP Gm j_Law_law 27 [some (.inr (.inl (some 0))), some (.inr (.inl (some 1))), some (.inr (.inl (some 121))), some (.inr (.inl (some 125))), some (.inl (ii (5 * T))), x.2.1, x.2.2.1, x.2.2.2.1, x.2.2.2.2] [] x.1 Q) (fun T x => LI L T x.1) (L / 5)
    (fun T x hT hI => by
      obtain ⟨g, v5, v6, v7, v8⟩ := x
      obtain ⟨g2, y5, y6, y7, y8, r1, r2⟩ := t_turn (T := T) (h := g) hI (by omega) hL v5 v6 v7 v8
      exact ⟨(g2, y5, y6, y7, y8), r1, r2⟩) (L / 5) 0 (h, none, none, none, none) (by omega) I
  dsimp only at e1 J
  have s1 : isK u 0 100 = true ∧ ln u 0 = L := by
    obtain ⟨n, B, τ, p, c, b9, x9, p9, m, α, Lv, hB, W, R, O, t125, s, -⟩ := J
    exact s
  have el : Int32.ofNat L = ii L := rfl
  have hc : (ii L - 5 < ii (5 * (L / 5))) = True := by rw [law_cond hL (by omega)]; exact eq_true (by omega)
  rw [e0, e1]
  simp only [e_Law_law_27, e_Law_law_29, ↓e_Law_law_30, ↓e_Law_law_31, ↓e_Law_law_32, ↓e_Law_law_33, ↓e_Law_law_36, ↓e_Law_law_37, ↓e_Law_law_39, ↓e_Law_law_40, ↓e_Law_law_42, ↓e_Law_law_1555, ↓e_Law_law_1556, not_true_eq_false, not_false_eq_true, one0, true_or, or_true, eq_self, bI_z, bI_nz, bI_o, b_ft, bI_1, bI_0, ↓kC_l, ↓kC_r, Option.toList_some, Option.toList_none, List.cons_append, List.nil_append, s1_0, s1_1i, s1_1r, s1_1w, s1_1n, s1_s, s2_0, s2_1i, s2_1r, s2_1w, s2_1n, s2_s, gI_sI, gI_sR, gI_sL, gI_sD, gR_sI, gR_sR, gR_sL, gR_sD, gL_sI, gL_sR, gL_sL, gL_sD, gD_sI, gD_sR, gD_sL, gD_sD, isK_sI, isK_sR, isK_sL, isK_sD, inL_sI, inL_sR, inL_sL, inL_sD, nx_sI, nx_sR, nx_sL, nx_sD, kd_sI, kd_sR, kd_sL, kd_sD, ln_sI, ln_sR, ln_sL, ln_sD, ↓reduceIte, c8_n, c8_1, c8_2, c8_3, c8_4, Nat.reduceAdd, s1.1, s1.2, el, hc]
end LWC
