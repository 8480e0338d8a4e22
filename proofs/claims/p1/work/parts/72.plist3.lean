/-! plist3: iterators, the first element removed, a list cleared -/
/-- an iterator at q over the list l, its place c -/
def It (h : Hp) (q l c : Nat) : Prop := isK h q kc_Itr = true ∧ gR h q 3 = some l ∧ gI h q 0 = ii c ∧ gI h q 2 = gI h l 0 ∧ q ≠ l
section LI3
variable {h : Hp} {l a k q c : Nat} (Q : MRes → Hp → Prop)
theorem q_hasNext (L : Li h l a k) (I : It h q l c) (hc : c ≤ k) : WP Gm j_Itr_hasNext 0 [some (.inr (.inl (some q)))] [] h Q = Q (.inl (some (.inl (bI (decide (c < k)))))) h := by
  have hb := L.b
  obtain ⟨i1, i2, i3, i4, i5⟩ := I
  have e1 : (ii c = ii k) = (c = k) := ii_inj (by omega) (by omega)
  simp only [↓e_Itr_hasNext_0, ↓e_Itr_hasNext_1, ↓e_Itr_hasNext_4, ↓e_Itr_hasNext_5, ↓e_Itr_hasNext_8, ↓e_Itr_hasNext_11, ↓e_Itr_hasNext_14, ↓e_Itr_hasNext_15, ↓e_Itr_hasNext_18, ↓e_Itr_hasNext_19, not_true_eq_false, not_false_eq_true, one0, true_or, or_true, eq_self, bI_z, bI_nz, bI_o, b_ft, bI_1, bI_0, ↓kC_l, ↓kC_r, Option.toList_some, Option.toList_none, List.cons_append, List.nil_append, s1_0, s1_1i, s1_1r, s1_1w, s1_1n, s1_s, s2_0, s2_1i, s2_1r, s2_1w, s2_1n, s2_s, gI_sI, gI_sR, gI_sL, gI_sD, gR_sI, gR_sR, gR_sL, gR_sD, gL_sI, gL_sR, gL_sL, gL_sD, gD_sI, gD_sR, gD_sL, gD_sD, isK_sI, isK_sR, isK_sL, isK_sD, inL_sI, inL_sR, inL_sL, inL_sD, nx_sI, nx_sR, nx_sL, nx_sD, kd_sI, kd_sR, kd_sL, kd_sD, ln_sI, ln_sR, ln_sL, ln_sD, ↓reduceIte, c8_n, c8_1, c8_2, c8_3, c8_4, Nat.reduceAdd, L.k, L.s, i1, i2, i3, e1]
  by_cases h0 : c = k
  · have : ¬ c < k := by omega
    simp [h0, bI]
  · have : c < k := by omega
    simp [h0, this, bI]
theorem q_next (L : Li h l a k) (I : It h q l c) (hc : c < k) : WP Gm j_Itr_next 0 [some (.inr (.inl (some q))), none, none] [] h Q = Q (.inl (some (.inr (.inl (gR h a c))))) (sI (sI h q 0 (ii (c + 1))) q 1 (ii c)) := by
  have hb := L.b
  obtain ⟨i1, i2, i3, i4, i5⟩ := I
  obtain ⟨r1, r2, -⟩ := L.row hc
  have e1 : (ii c < ii k) = True := by rw [ii_lt (by omega) (by omega)]; exact eq_true hc
  obtain ⟨r3, r4⟩ := L.row2 hc
  have e2 : (ii c < ii (ln h a)) = True := by rw [ii_lt (by omega) (by omega)]; exact eq_true r2
  simp only [↓e_Itr_next_0, ↓e_Itr_next_1, ↓e_Itr_next_4, ↓e_Itr_next_5, ↓e_Itr_next_8, ↓e_Itr_next_9, ↓e_Itr_next_10, ↓e_Itr_next_11, ↓e_Itr_next_14, ↓e_Itr_next_17, ↓e_Itr_next_28, ↓e_Itr_next_29, ↓e_Itr_next_32, ↓e_Itr_next_35, ↓e_Itr_next_36, ↓e_Itr_next_37, ↓e_Itr_next_38, ↓e_Itr_next_39, ↓e_Itr_next_50, ↓e_Itr_next_51, ↓e_Itr_next_52, ↓e_Itr_next_53, ↓e_Itr_next_54, ↓e_Itr_next_57, ↓e_Itr_next_58, ↓e_Itr_next_59, ↓e_Itr_next_60, ↓e_Itr_next_61, ↓e_Itr_next_64, ↓e_Itr_next_65, ↓e_Itr_checkForComodification_0, ↓e_Itr_checkForComodification_1, ↓e_Itr_checkForComodification_4, ↓e_Itr_checkForComodification_7, ↓e_Itr_checkForComodification_8, ↓e_Itr_checkForComodification_11, ↓e_Itr_checkForComodification_22, not_true_eq_false, not_false_eq_true, one0, true_or, or_true, eq_self, bI_z, bI_nz, bI_o, b_ft, bI_1, bI_0, ↓kC_l, ↓kC_r, Option.toList_some, Option.toList_none, List.cons_append, List.nil_append, s1_0, s1_1i, s1_1r, s1_1w, s1_1n, s1_s, s2_0, s2_1i, s2_1r, s2_1w, s2_1n, s2_s, gI_sI, gI_sR, gI_sL, gI_sD, gR_sI, gR_sR, gR_sL, gR_sD, gL_sI, gL_sR, gL_sL, gL_sD, gD_sI, gD_sR, gD_sL, gD_sD, isK_sI, isK_sR, isK_sL, isK_sD, inL_sI, inL_sR, inL_sL, inL_sD, nx_sI, nx_sR, nx_sL, nx_sD, kd_sI, kd_sR, kd_sL, kd_sD, ln_sI, ln_sR, ln_sL, ln_sD, ↓reduceIte, c8_n, c8_1, c8_2, c8_3, c8_4, Nat.reduceAdd, L.k, L.s, L.r, i1, i2, i3, i4, e1, r1, or_true, lnE_ne r3, ofN, e2, inL_n (show c < 2147483648 by omega) r2, ii_nat (show c < 2147483648 by omega), ii_succ]

theorem It.next (I : It h q l c) (hk : kd h l = kc_ArrayList) : It (sI (sI h q 0 (ii (c + 1))) q 1 (ii c)) q l (c + 1) := by
  obtain ⟨i1, i2, i3, i4, i5⟩ := I
  refine ⟨i1, i2, ?_, ?_, i5⟩
  · rw [gI_sI, if_neg (by simp), gI_sI, if_pos ⟨rfl, rfl⟩]
  · rw [gI_sI, if_neg (by simp), gI_sI, if_neg (by simp), gI_sI, if_neg (fun w => i5 w.1.symm), gI_sI, if_neg (fun w => i5 w.1.symm)]
    exact i4
/-- the first of one is removed -/
theorem q_lremove1 (L : Li h l a 1) : WP Gm j_ArrayList_remove 0 [some (.inr (.inl (some l))), some (.inl 0), none, none] [] h Q = Q (.inl (some (.inr (.inl (gR h a 0))))) (sR (sI (sI h l 0 (gI h l 0 + 1)) l 2 (ii 0)) a 0 none) := by
  obtain ⟨r1, r2, -⟩ := L.row (i := 0) (by omega)
  have ci := q_checkIndex (h := h) (i := 0) (k := 1) Q (by omega) (by omega)
  have e1 : ii 1 - 1 = ii 0 := by decide
  have e2 : (ii 0 ≤ ii 0) = True := eq_true (by decide)
  have hci : ∀ Q2, WP Gm j_Objects_checkIndex 0 [some (.inl 0), some (.inl (ii 1))] [] h Q2 = Q2 (.inl (some (.inl 0))) h := fun Q2 => q_checkIndex (h := h) (i := 0) (k := 1) Q2 (by omega) (by omega)
  have z0 : inL h a 0 = true := inL_n (i := 0) (by omega) r2
  have z1 : inL h a (ii 0) = true := z0
  have e3 : (ii 0 ≤ (0 : Int32)) = True := eq_true (by decide)
  have zn : (0 : Int32).toNatClampNeg = 0 := by decide
  have zm : (ii 0).toNatClampNeg = 0 := by decide
  have an : ∀ g : Hp, isAny g none = true := fun _ => rfl
  simp only [↓e_ArrayList_remove_0, ↓e_ArrayList_remove_1, ↓e_ArrayList_remove_2, ↓e_ArrayList_remove_5, ↓e_ArrayList_remove_8, ↓e_ArrayList_remove_9, ↓e_ArrayList_remove_10, ↓e_ArrayList_remove_13, ↓e_ArrayList_remove_14, ↓e_ArrayList_remove_15, ↓e_ArrayList_remove_16, ↓e_ArrayList_remove_17, ↓e_ArrayList_remove_18, ↓e_ArrayList_remove_19, ↓e_ArrayList_remove_20, ↓e_ArrayList_remove_21, ↓e_ArrayList_remove_24, ↓e_ArrayList_remove_25, ↓e_ArrayList_fastRemove_0, ↓e_ArrayList_fastRemove_1, ↓e_ArrayList_fastRemove_2, ↓e_ArrayList_fastRemove_5, ↓e_ArrayList_fastRemove_6, ↓e_ArrayList_fastRemove_7, ↓e_ArrayList_fastRemove_10, ↓e_ArrayList_fastRemove_11, ↓e_ArrayList_fastRemove_14, ↓e_ArrayList_fastRemove_15, ↓e_ArrayList_fastRemove_16, ↓e_ArrayList_fastRemove_17, ↓e_ArrayList_fastRemove_18, ↓e_ArrayList_fastRemove_19, ↓e_ArrayList_fastRemove_22, ↓e_ArrayList_fastRemove_23, ↓e_ArrayList_fastRemove_24, ↓e_ArrayList_fastRemove_25, ↓e_ArrayList_fastRemove_26, ↓e_ArrayList_fastRemove_27, ↓e_ArrayList_fastRemove_28, ↓e_ArrayList_fastRemove_29, ↓e_ArrayList_fastRemove_30, ↓e_ArrayList_fastRemove_31, ↓e_ArrayList_fastRemove_34, ↓e_ArrayList_fastRemove_35, ↓e_ArrayList_fastRemove_36, ↓e_ArrayList_fastRemove_37, ↓e_ArrayList_fastRemove_38, ↓e_ArrayList_fastRemove_41, ↓e_ArrayList_fastRemove_42, ↓e_ArrayList_fastRemove_43, not_true_eq_false, not_false_eq_true, one0, true_or, or_true, eq_self, bI_z, bI_nz, bI_o, b_ft, bI_1, bI_0, ↓kC_l, ↓kC_r, Option.toList_some, Option.toList_none, List.cons_append, List.nil_append, s1_0, s1_1i, s1_1r, s1_1w, s1_1n, s1_s, s2_0, s2_1i, s2_1r, s2_1w, s2_1n, s2_s, gI_sI, gI_sR, gI_sL, gI_sD, gR_sI, gR_sR, gR_sL, gR_sD, gL_sI, gL_sR, gL_sL, gL_sD, gD_sI, gD_sR, gD_sL, gD_sD, isK_sI, isK_sR, isK_sL, isK_sD, inL_sI, inL_sR, inL_sL, inL_sD, nx_sI, nx_sR, nx_sL, nx_sD, kd_sI, kd_sR, kd_sL, kd_sD, ln_sI, ln_sR, ln_sL, ln_sD, ↓reduceIte, c8_n, c8_1, c8_2, c8_3, c8_4, Nat.reduceAdd, L.k, L.s, L.r, ↓hci, z0, z1, zn, zm, r1, two0, and_false, e1, e2, e3, an]
end LI3
