/-! pknock: knock on both sides; the reference's refusals -/
section KNK
variable {h : Hp} {m : Nat} (Q : MRes → Hp → Prop)
theorem q_knock (hk : isK h 1 kc_S = true) : WP Gm j_S_knock 0 [some (.inr (.inl (some 1)))] [] h Q = Q (.inl (some (.inl (gI h 1 4 + 1)))) (sI h 1 4 (gI h 1 4 + 1)) := by
  simp only [↓e_S_knock_0, ↓e_S_knock_1, ↓e_S_knock_2, ↓e_S_knock_5, ↓e_S_knock_6, ↓e_S_knock_7, ↓e_S_knock_10, ↓e_S_knock_11, ↓e_S_knock_14, not_true_eq_false, not_false_eq_true, one0, true_or, or_true, eq_self, bI_z, bI_nz, bI_o, b_ft, bI_1, bI_0, ↓kC_l, ↓kC_r, Option.toList_some, Option.toList_none, List.cons_append, List.nil_append, s1_0, s1_1i, s1_1r, s1_1w, s1_1n, s1_s, s2_0, s2_1i, s2_1r, s2_1w, s2_1n, s2_s, gI_sI, gI_sR, gI_sL, gI_sD, gR_sI, gR_sR, gR_sL, gR_sD, gL_sI, gL_sR, gL_sL, gL_sD, gD_sI, gD_sR, gD_sL, gD_sD, isK_sI, isK_sR, isK_sL, isK_sD, inL_sI, inL_sR, inL_sL, inL_sD, nx_sI, nx_sR, nx_sL, nx_sD, kd_sI, kd_sR, kd_sL, kd_sD, ln_sI, ln_sR, ln_sL, ln_sD, ↓reduceIte, c8_n, c8_1, c8_2, c8_3, c8_4, Nat.reduceAdd, hk, and_self]
theorem q_mknock (hk : isK h m kc_Mdl = true) : WP Gm j_Mdl_knock 0 [some (.inr (.inl (some m)))] [] h Q = Q (.inl (some (.inl (gI h m 8 + 1)))) (sI (sI h m 0 0) m 8 (gI h m 8 + 1)) := by
  have e80 : ((8 : Nat) = 0) = False := eq_false (by decide)
  simp only [↓e_Mdl_knock_0, ↓e_Mdl_knock_1, ↓e_Mdl_knock_2, ↓e_Mdl_knock_5, ↓e_Mdl_knock_6, ↓e_Mdl_knock_7, ↓e_Mdl_knock_10, ↓e_Mdl_knock_11, ↓e_Mdl_knock_12, ↓e_Mdl_knock_15, ↓e_Mdl_knock_16, ↓e_Mdl_knock_19, not_true_eq_false, not_false_eq_true, one0, true_or, or_true, eq_self, bI_z, bI_nz, bI_o, b_ft, bI_1, bI_0, ↓kC_l, ↓kC_r, Option.toList_some, Option.toList_none, List.cons_append, List.nil_append, s1_0, s1_1i, s1_1r, s1_1w, s1_1n, s1_s, s2_0, s2_1i, s2_1r, s2_1w, s2_1n, s2_s, gI_sI, gI_sR, gI_sL, gI_sD, gR_sI, gR_sR, gR_sL, gR_sD, gL_sI, gL_sR, gL_sL, gL_sD, gD_sI, gD_sR, gD_sL, gD_sD, isK_sI, isK_sR, isK_sL, isK_sD, inL_sI, inL_sR, inL_sL, inL_sD, nx_sI, nx_sR, nx_sL, nx_sD, kd_sI, kd_sR, kd_sL, kd_sD, ln_sI, ln_sR, ln_sL, ln_sD, ↓reduceIte, c8_n, c8_1, c8_2, c8_3, c8_4, Nat.reduceAdd, hk, and_self, e80, and_false]
/-- refuse(is, which): thrown takes which, if it is 0 -/
theorem q_mrefuse (hk : isK h m kc_Mdl = true) (b : Bool) (w : Int32) : WP Gm j_Mdl_refuse 0 [some (.inr (.inl (some m))), some (.inl (bI b)), some (.inl w)] [] h Q = if b = true ∧ gI h m 0 = 0 then Q (.inl (some (.inl (bI (decide (0 < w)))))) (sI h m 0 w) else Q (.inl (some (.inl (bI (decide (0 < gI h m 0)))))) h := by
  cases b with
  | false =>
    simp only [↓e_Mdl_refuse_0, ↓e_Mdl_refuse_1, ↓e_Mdl_refuse_4, ↓e_Mdl_refuse_5, ↓e_Mdl_refuse_8, ↓e_Mdl_refuse_11, ↓e_Mdl_refuse_12, ↓e_Mdl_refuse_13, ↓e_Mdl_refuse_16, ↓e_Mdl_refuse_17, ↓e_Mdl_refuse_20, ↓e_Mdl_refuse_23, ↓e_Mdl_refuse_24, ↓e_Mdl_refuse_27, ↓e_Mdl_refuse_28, not_true_eq_false, not_false_eq_true, one0, true_or, or_true, eq_self, bI_z, bI_nz, bI_o, b_ft, bI_1, bI_0, ↓kC_l, ↓kC_r, Option.toList_some, Option.toList_none, List.cons_append, List.nil_append, s1_0, s1_1i, s1_1r, s1_1w, s1_1n, s1_s, s2_0, s2_1i, s2_1r, s2_1w, s2_1n, s2_s, gI_sI, gI_sR, gI_sL, gI_sD, gR_sI, gR_sR, gR_sL, gR_sD, gL_sI, gL_sR, gL_sL, gL_sD, gD_sI, gD_sR, gD_sL, gD_sD, isK_sI, isK_sR, isK_sL, isK_sD, inL_sI, inL_sR, inL_sL, inL_sD, nx_sI, nx_sR, nx_sL, nx_sD, kd_sI, kd_sR, kd_sL, kd_sD, ln_sI, ln_sR, ln_sL, ln_sD, ↓reduceIte, c8_n, c8_1, c8_2, c8_3, c8_4, Nat.reduceAdd, hk, Bool.false_eq_true, false_and]
    by_cases h1 : gI h m 0 ≤ 0
    · have h2 : ¬ 0 < gI h m 0 := Int32.not_lt.mpr h1
      simp [h1, h2, bI]
    · have h2 : 0 < gI h m 0 := Int32.not_le.mp h1
      simp [h1, h2, bI]
  | true =>
    by_cases h0 : gI h m 0 = 0
    · simp only [↓e_Mdl_refuse_0, ↓e_Mdl_refuse_1, ↓e_Mdl_refuse_4, ↓e_Mdl_refuse_5, ↓e_Mdl_refuse_8, ↓e_Mdl_refuse_11, ↓e_Mdl_refuse_12, ↓e_Mdl_refuse_13, ↓e_Mdl_refuse_16, ↓e_Mdl_refuse_17, ↓e_Mdl_refuse_20, ↓e_Mdl_refuse_23, ↓e_Mdl_refuse_24, ↓e_Mdl_refuse_27, ↓e_Mdl_refuse_28, not_true_eq_false, not_false_eq_true, one0, true_or, or_true, eq_self, bI_z, bI_nz, bI_o, b_ft, bI_1, bI_0, ↓kC_l, ↓kC_r, Option.toList_some, Option.toList_none, List.cons_append, List.nil_append, s1_0, s1_1i, s1_1r, s1_1w, s1_1n, s1_s, s2_0, s2_1i, s2_1r, s2_1w, s2_1n, s2_s, gI_sI, gI_sR, gI_sL, gI_sD, gR_sI, gR_sR, gR_sL, gR_sD, gL_sI, gL_sR, gL_sL, gL_sD, gD_sI, gD_sR, gD_sL, gD_sD, isK_sI, isK_sR, isK_sL, isK_sD, inL_sI, inL_sR, inL_sL, inL_sD, nx_sI, nx_sR, nx_sL, nx_sD, kd_sI, kd_sR, kd_sL, kd_sD, ln_sI, ln_sR, ln_sL, ln_sD, ↓reduceIte, c8_n, c8_1, c8_2, c8_3, c8_4, Nat.reduceAdd, hk, h0, and_self]
      by_cases h1 : w ≤ 0
      · have h2 : ¬ 0 < w := Int32.not_lt.mpr h1
        simp [h1, h2, bI]
      · have h2 : 0 < w := Int32.not_le.mp h1
        simp [h1, h2, bI]
    · simp only [↓e_Mdl_refuse_0, ↓e_Mdl_refuse_1, ↓e_Mdl_refuse_4, ↓e_Mdl_refuse_5, ↓e_Mdl_refuse_8, ↓e_Mdl_refuse_11, ↓e_Mdl_refuse_12, ↓e_Mdl_refuse_13, ↓e_Mdl_refuse_16, ↓e_Mdl_refuse_17, ↓e_Mdl_refuse_20, ↓e_Mdl_refuse_23, ↓e_Mdl_refuse_24, ↓e_Mdl_refuse_27, ↓e_Mdl_refuse_28, not_true_eq_false, not_false_eq_true, one0, true_or, or_true, eq_self, bI_z, bI_nz, bI_o, b_ft, bI_1, bI_0, ↓kC_l, ↓kC_r, Option.toList_some, Option.toList_none, List.cons_append, List.nil_append, s1_0, s1_1i, s1_1r, s1_1w, s1_1n, s1_s, s2_0, s2_1i, s2_1r, s2_1w, s2_1n, s2_s, gI_sI, gI_sR, gI_sL, gI_sD, gR_sI, gR_sR, gR_sL, gR_sD, gL_sI, gL_sR, gL_sL, gL_sD, gD_sI, gD_sR, gD_sL, gD_sD, isK_sI, isK_sR, isK_sL, isK_sD, inL_sI, inL_sR, inL_sL, inL_sD, nx_sI, nx_sR, nx_sL, nx_sD, kd_sI, kd_sR, kd_sL, kd_sD, ln_sI, ln_sR, ln_sL, ln_sD, ↓reduceIte, c8_n, c8_1, c8_2, c8_3, c8_4, Nat.reduceAdd, hk, h0, and_false]
      by_cases h1 : gI h m 0 ≤ 0
      · have h2 : ¬ 0 < gI h m 0 := Int32.not_lt.mpr h1
        simp [h1, h2, bI]
      · have h2 : 0 < gI h m 0 := Int32.not_le.mp h1
        simp [h1, h2, bI]
end KNK
