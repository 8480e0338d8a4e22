/-! xas19: the law's helper for air in values -/
theorem hv_air {n B T m : Nat} {K : Int32} {b9 x9 p9 : Nat → Nat} {h : Hp} {α : As} (L : LV n B T h) (hB : B ≤ 2000) (W : FN n h) (hr : okR cM sM h 1 6 = true) (hO : isK h 125 kc_Out = true) (V : CA n h α) (M : MX b9 x9 p9 m h) (hK : gI h 1 4 = K) (x0 : Int32) : ∃ k h', (∀ Q, WP Gm j_Law_air 0 [some (.inr (.inl (some 1))), some (.inl x0), some (.inr (.inl (some 125))), none] [] h Q = Q (.inl (some (.inl k))) h') ∧ CC n (T + 1) h h' ∧ k = (air9 n m K α x0).1 ∧ (k = 0 → gL h' 125 0 = (air9 n m K α x0).2.1.toInt64) ∧ CA n h' (air9 n m K α x0).2.2 := by
  have S := L.1.1.1
  obtain ⟨rs, h1, r1, ok, cc⟩ := c_air L hB W hr x0
  obtain ⟨rs', h1', r1', w, Y⟩ := vx_air L.1.1 V M hK hr x0
  obtain ⟨rfl, rfl⟩ := det r1 r1'
  have hO1 := cc_out cc hO
  have hm8 := cc_n8 cc
  generalize air9 n m K α x0 = r at *
  rcases w with ⟨z, rfl⟩ | ⟨E, hE, rfl, z⟩
  · refine ⟨0, sL h1 125 0 r.2.1.toInt64, fun Q => ?_, cc_sL cc _ _ _ (by omega), z.symm, fun _ => by rw [gL_sL, if_pos ⟨rfl, rfl⟩], Y.sL hm8 _ _⟩
    simp only [↓e_Law_air_0, ↓e_Law_air_1, ↓e_Law_air_2, ↓e_Law_air_3, ↓e_Law_air_6, ↓e_Law_air_7, ↓e_Law_air_10, ↓e_Law_air_13, ↓e_Law_air_14, ↓e_Law_air_15, ↓e_Law_air_16, ↓e_Law_air_17, not_true_eq_false, not_false_eq_true, one0, true_or, or_true, eq_self, bI_z, bI_nz, bI_o, b_ft, bI_1, bI_0, ↓kC_l, ↓kC_r, Option.toList_some, Option.toList_none, List.cons_append, List.nil_append, s1_0, s1_1i, s1_1r, s1_1w, s1_1n, s1_s, s2_0, s2_1i, s2_1r, s2_1w, s2_1n, s2_s, gI_sI, gI_sR, gI_sL, gI_sD, gR_sI, gR_sR, gR_sL, gR_sD, gL_sI, gL_sR, gL_sL, gL_sD, gD_sI, gD_sR, gD_sL, gD_sD, isK_sI, isK_sR, isK_sL, isK_sD, inL_sI, inL_sR, inL_sL, inL_sD, nx_sI, nx_sR, nx_sL, nx_sD, kd_sI, kd_sR, kd_sL, kd_sD, ln_sI, ln_sR, ln_sL, ln_sD, ↓reduceIte, c8_n, c8_1, c8_2, c8_3, c8_4, Nat.reduceAdd, k_s S, r1, hO1]
  · have : E = 0 := by
      rcases ok with ⟨v, q⟩ | ⟨E', hE', q⟩
      · cases q
      · cases q
        simpa using hE'
    subst this
    refine ⟨1, h1, fun Q => ?_, cc, (show (1 : Int32) = mB9 0 from rfl).trans z.symm, fun e => absurd e (by decide), Y⟩
    simp only [↓e_Law_air_0, ↓e_Law_air_1, ↓e_Law_air_2, ↓e_Law_air_3, ↓e_Law_air_6, ↓e_Law_air_7, ↓e_Law_air_10, ↓e_Law_air_13, ↓e_Law_air_14, ↓e_Law_air_15, ↓e_Law_air_16, ↓e_Law_air_17, not_true_eq_false, not_false_eq_true, one0, true_or, or_true, eq_self, bI_z, bI_nz, bI_o, b_ft, bI_1, bI_0, ↓kC_l, ↓kC_r, Option.toList_some, Option.toList_none, List.cons_append, List.nil_append, s1_0, s1_1i, s1_1r, s1_1w, s1_1n, s1_s, s2_0, s2_1i, s2_1r, s2_1w, s2_1n, s2_s, gI_sI, gI_sR, gI_sL, gI_sD, gR_sI, gR_sR, gR_sL, gR_sD, gL_sI, gL_sR, gL_sL, gL_sD, gD_sI, gD_sR, gD_sL, gD_sD, isK_sI, isK_sR, isK_sL, isK_sD, inL_sI, inL_sR, inL_sL, inL_sD, nx_sI, nx_sR, nx_sL, nx_sD, kd_sI, kd_sR, kd_sL, kd_sD, ln_sI, ln_sR, ln_sL, ln_sD, ↓reduceIte, c8_n, c8_1, c8_2, c8_3, c8_4, Nat.reduceAdd, k_s S, r1, (show mHx_Law_air 0 = some (14, 3) from rfl), ne_eq, Nat.reduceEqDiff, true_and]
