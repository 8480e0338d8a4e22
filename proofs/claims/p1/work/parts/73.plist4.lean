/-! plist4: the first of several is removed -/
theorem isK_cR (h : Hp) (a d sp dp n b c : Nat) : isK (cR h a d sp dp n) b c = isK h b c := rfl
theorem inL_cR (h : Hp) (a d sp dp n b : Nat) (i : Int32) : inL (cR h a d sp dp n) b i = inL h b i := rfl
section LI4
variable {h : Hp} {l a k : Nat} (Q : MRes → Hp → Prop)
theorem q_lremoveN (L : Li h l a k) (hk1 : 1 < k) (hany : ∀ i, i < k → isAny h (gR h a i) = true) : WP Gm j_ArrayList_remove 0 [some (.inr (.inl (some l))), some (.inl 0), none, none] [] h Q = Q (.inl (some (.inr (.inl (gR h a 0))))) (sR (sI (cR (sI h l 0 (gI h l 0 + 1)) a a 1 0 (k - 1)) l 2 (ii (k - 1))) a (k - 1) none) := by
  have hb := L.b
  obtain ⟨r1, r2, -⟩ := L.row (i := 0) (by omega)
  obtain ⟨r3, r4⟩ := L.row2 (i := 0) (by omega)
  obtain ⟨-, r5, -⟩ := L.row (i := k - 1) (by omega)
  have e1 : ii k - 1 = ii (k - 1) := ii_pred (by omega)
  have e2 : (ii (k - 1) ≤ (0 : Int32)) = False := by rw [z_ii, ii_le (by omega) (by omega)]; exact eq_false (by omega)
  have e4 : ii (k - 1) - 0 = ii (k - 1) := Int32.sub_zero _
  have e5 : (0 : Int32) + 1 = 1 := by decide
  have hci : ∀ Q2, WP Gm j_Objects_checkIndex 0 [some (.inl 0), some (.inl (ii k))] [] h Q2 = Q2 (.inl (some (.inl 0))) h := fun Q2 => q_checkIndex (h := h) (i := 0) (k := k) Q2 (by omega) hb
  have z0 : inL h a 0 = true := inL_n (i := 0) (by omega) r2
  have z1 : inL h a (ii (k - 1)) = true := inL_n (by omega) r5
  have zn : (0 : Int32).toNatClampNeg = 0 := by decide
  have on : (1 : Int32).toNatClampNeg = 1 := by decide
  have kn : (ii (k - 1)).toNatClampNeg = k - 1 := ii_nat (by omega)
  have an : ∀ g : Hp, isAny g none = true := fun _ => rfl
  have hcp : cpOK (sI h l 0 (gI h l 0 + 1)) 6 a a 1 0 (ii (k - 1)) [] = true := by
    have g0 : (0 : Int32) ≤ ii (k - 1) := by rw [z_ii, ii_le (by omega) (by omega)]; omega
    unfold cpOK
    rw [isK_sI, r1, on, zn, kn]
    show ((true && true && (decide ((0 : Int32) ≤ 1) && decide ((0 : Int32) ≤ 0) && decide ((0 : Int32) ≤ ii (k - 1)))) && (decide (1 + (k - 1) ≤ ln h a) && decide (0 + (k - 1) ≤ ln h a)) && decide (catS [] ≤ 8)) = true
    rw [decide_eq_true g0, decide_eq_true (show 1 + (k - 1) ≤ ln h a by omega), decide_eq_true (show 0 + (k - 1) ≤ ln h a by omega)]
    rfl
  have hf : (List.range (k - 1)).all (fun i => isAny h (gR h a (1 + i))) = true := List.all_eq_true.mpr fun i hi => hany _ (by have := List.mem_range.mp hi; omega)
  simp only [↓e_ArrayList_remove_0, ↓e_ArrayList_remove_1, ↓e_ArrayList_remove_2, ↓e_ArrayList_remove_5, ↓e_ArrayList_remove_8, ↓e_ArrayList_remove_9, ↓e_ArrayList_remove_10, ↓e_ArrayList_remove_13, ↓e_ArrayList_remove_14, ↓e_ArrayList_remove_15, ↓e_ArrayList_remove_16, ↓e_ArrayList_remove_17, ↓e_ArrayList_remove_18, ↓e_ArrayList_remove_19, ↓e_ArrayList_remove_20, ↓e_ArrayList_remove_21, ↓e_ArrayList_remove_24, ↓e_ArrayList_remove_25, ↓e_ArrayList_fastRemove_0, ↓e_ArrayList_fastRemove_1, ↓e_ArrayList_fastRemove_2, ↓e_ArrayList_fastRemove_5, ↓e_ArrayList_fastRemove_6, ↓e_ArrayList_fastRemove_7, ↓e_ArrayList_fastRemove_10, ↓e_ArrayList_fastRemove_11, ↓e_ArrayList_fastRemove_14, ↓e_ArrayList_fastRemove_15, ↓e_ArrayList_fastRemove_16, ↓e_ArrayList_fastRemove_17, ↓e_ArrayList_fastRemove_18, ↓e_ArrayList_fastRemove_19, ↓e_ArrayList_fastRemove_22, ↓e_ArrayList_fastRemove_23, ↓e_ArrayList_fastRemove_24, ↓e_ArrayList_fastRemove_25, ↓e_ArrayList_fastRemove_26, ↓e_ArrayList_fastRemove_27, ↓e_ArrayList_fastRemove_28, ↓e_ArrayList_fastRemove_29, ↓e_ArrayList_fastRemove_30, ↓e_ArrayList_fastRemove_31, ↓e_ArrayList_fastRemove_34, ↓e_ArrayList_fastRemove_35, ↓e_ArrayList_fastRemove_36, ↓e_ArrayList_fastRemove_37, ↓e_ArrayList_fastRemove_38, ↓e_ArrayList_fastRemove_41, ↓e_ArrayList_fastRemove_42, ↓e_ArrayList_fastRemove_43, not_true_eq_false, not_false_eq_true, one0, true_or, or_true, eq_self, bI_z, bI_nz, bI_o, b_ft, bI_1, bI_0, ↓kC_l, ↓kC_r, Option.toList_some, Option.toList_none, List.cons_append, List.nil_append, s1_0, s1_1i, s1_1r, s1_1w, s1_1n, s1_s, s2_0, s2_1i, s2_1r, s2_1w, s2_1n, s2_s, gI_sI, gI_sR, gI_sL, gI_sD, gR_sI, gR_sR, gR_sL, gR_sD, gL_sI, gL_sR, gL_sL, gL_sD, gD_sI, gD_sR, gD_sL, gD_sD, isK_sI, isK_sR, isK_sL, isK_sD, inL_sI, inL_sR, inL_sL, inL_sD, nx_sI, nx_sR, nx_sL, nx_sD, kd_sI, kd_sR, kd_sL, kd_sD, ln_sI, ln_sR, ln_sL, ln_sD, ↓reduceIte, c8_n, c8_1, c8_2, c8_3, c8_4, Nat.reduceAdd, L.k, L.s, L.r, ↓hci, z0, z1, zn, on, kn, r1, two0, and_false, e1, e2, e4, e5, an, hcp, hf, isAny_sI, isK_cR, inL_cR]
end LI4
