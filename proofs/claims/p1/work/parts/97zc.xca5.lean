/-! xca5: the country's calls in values: move, tune, send, pass, node -/
def mA9 (E : Nat) : Int32 := if E = 2 then 1 else if E = 0 then 2 else 3
def mB9 (E : Nat) : Int32 := if E = 0 then 1 else 2
/-- a call of the country ends as r says; m: what the law calls each exception -/
def vr9 (m : Nat → Int32) (rs : MRes) (r : Rs9) : Prop := (r.1 = 0 ∧ rs = .inl (some (.inl r.2.1))) ∨ ∃ E, E < 3 ∧ rs = .inr E ∧ r.1 = m E
def nod9 (n : Nat) (α : As) (x y r ch : Int32) : As := (fun a k => if a = n then (if k = 0 then x else if k = 1 then y else if k = 2 then r else if k = 3 then ch else if k = 8 then -1 else 0) else if a = 60 + n ∨ a = 70 + n then -1 else α.1 a k, fun a => if a = n then 0 else α.2.1 a, α.2.2.1, fun a k => if a = n then false else α.2.2.2 a k)
def nde9 (n : Nat) (α : As) (x y r ch : Int32) : Rs9 := if nodeOK x y r = false then (1, 0, α) else if n < 8 then (0, ii n, nod9 n α x y r ch) else (2, 0, α)
section XC5
variable {n B T : Nat} {h h' : Hp} {α β : As}
theorem isN_ii (hn : n ≤ 8) {i : Nat} (hi : i < n) : isN n (ii i) = true := by
  rcases node_cases hn (ii i) with hb | ⟨hb, -⟩
  · have e1 : ii n - 1 = ii (n - 1) := ii_pred (by omega)
    rw [e1, z_ii, wthn (a := 0) (b := n - 1) (by omega) (by omega) (by omega) (by omega) (by omega)] at hb
    cases hb
  · exact isN_ok hb
theorem isN_ex (hn : n ≤ 8) {x : Int32} (h : isN n x = true) : ∃ i, i < n ∧ x = ii i := by
  rcases node_cases hn x with hb | ⟨hb, r⟩
  · rw [isN_no hb] at h; cases h
  · exact r
theorem c_no9 (S : Str n h) (hr : okR cM sM h 1 6 = true) {x : Int32} (hb : isN n x = false) (Q : MRes → Hp → Prop) : WP Gm j_S_checkNode 0 [some (.inr (.inl (some 1))), some (.inl x)] [] h Q = Q (.inr 2) (hN h kc_IndexOutOfBoundsException 0 6) := by
  rcases c_node9 S hr x with ⟨i, hi, rfl⟩ | hx
  · rw [isN_ii (n8 S) hi] at hb; cases hb
  · exact hx Q
/-- who hears whom is found again -/
theorem ca_findH (S : Str n h) : ∃ h', (∀ Q, WP Gm j_Land_findHearers 0 [some (.inr (.inl (some 2))), none, none, none] [] h Q = Q (.inl none) h') ∧ Fr (fun a _ => a = 4) nW nW h h' ∧ ∀ j, j < n → gI h' 4 j = upto (fun k s => if (decide (k ≠ j) && decide (farF h k j ≤ gI h (5 + 9 * j) 2 * gI h (5 + 9 * j) 2)) = true then s ||| bitN k else s) n 0 0 := by
  have hn := n8 S
  obtain ⟨⟨g, w1, w2⟩, e1, F, H'⟩ := loopR (fun Q k (a : Hp × Option MV × Option MV) => WP Gm j_Land_findHearers 2 [some (.inr (.inl (some 2))), some (.inl (ii k)), a.2.1, a.2.2] [] a.1 Q) (fun k a => Fr (fun a _ => a = 4) nW nW h a.1 ∧ ∀ j, j < k → gI a.1 4 j = upto (fun k s => if (decide (k ≠ j) && decide (farF h k j ≤ gI h (5 + 9 * j) 2 * gI h (5 + 9 * j) 2)) = true then s ||| bitN k else s) n 0 0) n
    (fun k a hk hI => by
      obtain ⟨g, w1, w2⟩ := a
      dsimp only at hI ⊢
      obtain ⟨Fg, Hg⟩ := hI
      have hk8 : k < 8 := by omega
      have Sg : Str n g := S.fr Fg (by omega)
      have ef : ∀ m, m < 8 → farF g m k = farF h m k := fun m hm => by
        unfold farF
        rw [Fg.1 _ _ (by omega), Fg.1 _ _ (by omega), Fg.1 _ _ (by omega), Fg.1 _ _ (by omega)]
      have er : gI g (5 + 9 * k) 2 = gI h (5 + 9 * k) 2 := Fg.1 _ _ (by omega)
      have e2 := fun Q => loop0 (fun m (s : Int32) => WP Gm j_Land_findHearers 14 [some (.inr (.inl (some 2))), some (.inl (ii k)), some (.inl s), some (.inl (ii m))] [] g Q) (fun m s => if (decide (m ≠ k) && decide (farF h m k ≤ gI h (5 + 9 * k) 2 * gI h (5 + 9 * k) 2)) = true then s ||| bitN m else s) n
        (fun m s hm => by
          have hm8 : m < 8 := by omega
          by_cases hmk : m = k
          · have e0 : decide (m ≠ k) = false := decide_eq_false (by omega)
            rw [e0, Bool.false_and, if_neg (by decide), e_Land_findHearers_14]
            simp only [↓e_Land_findHearers_0, ↓e_Land_findHearers_1, ↓e_Land_findHearers_3, ↓e_Land_findHearers_4, ↓e_Land_findHearers_7, ↓e_Land_findHearers_10, ↓e_Land_findHearers_11, ↓e_Land_findHearers_12, ↓e_Land_findHearers_13, ↓e_Land_findHearers_15, ↓e_Land_findHearers_16, ↓e_Land_findHearers_19, ↓e_Land_findHearers_22, ↓e_Land_findHearers_23, ↓e_Land_findHearers_24, ↓e_Land_findHearers_27, ↓e_Land_findHearers_28, ↓e_Land_findHearers_29, ↓e_Land_findHearers_30, ↓e_Land_findHearers_33, ↓e_Land_findHearers_34, ↓e_Land_findHearers_37, ↓e_Land_findHearers_38, ↓e_Land_findHearers_39, ↓e_Land_findHearers_42, ↓e_Land_findHearers_43, ↓e_Land_findHearers_46, ↓e_Land_findHearers_47, ↓e_Land_findHearers_48, ↓e_Land_findHearers_51, ↓e_Land_findHearers_52, ↓e_Land_findHearers_55, ↓e_Land_findHearers_56, ↓e_Land_findHearers_57, ↓e_Land_findHearers_58, ↓e_Land_findHearers_59, ↓e_Land_findHearers_60, ↓e_Land_findHearers_61, ↓e_Land_findHearers_64, ↓e_Land_findHearers_67, ↓e_Land_findHearers_68, ↓e_Land_findHearers_71, ↓e_Land_findHearers_72, ↓e_Land_findHearers_73, ↓e_Land_findHearers_74, ↓e_Land_findHearers_77, ↓e_Land_findHearers_80, not_true_eq_false, not_false_eq_true, one0, true_or, or_true, eq_self, bI_z, bI_nz, bI_o, b_ft, bI_1, bI_0, ↓kC_l, ↓kC_r, Option.toList_some, Option.toList_none, List.cons_append, List.nil_append, s1_0, s1_1i, s1_1r, s1_1w, s1_1n, s1_s, s2_0, s2_1i, s2_1r, s2_1w, s2_1n, s2_s, gI_sI, gI_sR, gI_sL, gI_sD, gR_sI, gR_sR, gR_sL, gR_sD, gL_sI, gL_sR, gL_sL, gL_sD, gD_sI, gD_sR, gD_sL, gD_sD, isK_sI, isK_sR, isK_sL, isK_sD, inL_sI, inL_sR, inL_sL, inL_sD, nx_sI, nx_sR, nx_sL, nx_sD, kd_sI, kd_sR, kd_sL, kd_sD, ln_sI, ln_sR, ln_sL, ln_sD, ↓reduceIte, c8_n, c8_1, c8_2, c8_3, c8_4, Nat.reduceAdd, k_s Sg, k_land Sg, k_nodes Sg, k_hear Sg, k_routes Sg, k_traffic Sg, k_market Sg, g_cnt Sg, r_land Sg, r_routes Sg, r_traffic Sg, r_market Sg, r_nodes Sg, r_hear Sg, r_rland Sg, r_tland Sg, r_troutes Sg, le_f (n8 Sg) hm, le_f (n8 Sg) hk, hmk, ii_succ]
          · have hne : (ii m = ii k) = False := by rw [ii_inj (by omega) (by omega)]; exact eq_false hmk
            rw [decide_eq_true hmk, Bool.true_and, e_Land_findHearers_14]
            by_cases hfar : gI h (5 + 9 * k) 2 * gI h (5 + 9 * k) 2 < farF h m k
            · rw [decide_eq_false (Int32.not_le.mpr hfar), if_neg (by decide)]
              simp only [↓e_Land_findHearers_0, ↓e_Land_findHearers_1, ↓e_Land_findHearers_3, ↓e_Land_findHearers_4, ↓e_Land_findHearers_7, ↓e_Land_findHearers_10, ↓e_Land_findHearers_11, ↓e_Land_findHearers_12, ↓e_Land_findHearers_13, ↓e_Land_findHearers_15, ↓e_Land_findHearers_16, ↓e_Land_findHearers_19, ↓e_Land_findHearers_22, ↓e_Land_findHearers_23, ↓e_Land_findHearers_24, ↓e_Land_findHearers_27, ↓e_Land_findHearers_28, ↓e_Land_findHearers_29, ↓e_Land_findHearers_30, ↓e_Land_findHearers_33, ↓e_Land_findHearers_34, ↓e_Land_findHearers_37, ↓e_Land_findHearers_38, ↓e_Land_findHearers_39, ↓e_Land_findHearers_42, ↓e_Land_findHearers_43, ↓e_Land_findHearers_46, ↓e_Land_findHearers_47, ↓e_Land_findHearers_48, ↓e_Land_findHearers_51, ↓e_Land_findHearers_52, ↓e_Land_findHearers_55, ↓e_Land_findHearers_56, ↓e_Land_findHearers_57, ↓e_Land_findHearers_58, ↓e_Land_findHearers_59, ↓e_Land_findHearers_60, ↓e_Land_findHearers_61, ↓e_Land_findHearers_64, ↓e_Land_findHearers_67, ↓e_Land_findHearers_68, ↓e_Land_findHearers_71, ↓e_Land_findHearers_72, ↓e_Land_findHearers_73, ↓e_Land_findHearers_74, ↓e_Land_findHearers_77, ↓e_Land_findHearers_80, not_true_eq_false, not_false_eq_true, one0, true_or, or_true, eq_self, bI_z, bI_nz, bI_o, b_ft, bI_1, bI_0, ↓kC_l, ↓kC_r, Option.toList_some, Option.toList_none, List.cons_append, List.nil_append, s1_0, s1_1i, s1_1r, s1_1w, s1_1n, s1_s, s2_0, s2_1i, s2_1r, s2_1w, s2_1n, s2_s, gI_sI, gI_sR, gI_sL, gI_sD, gR_sI, gR_sR, gR_sL, gR_sD, gL_sI, gL_sR, gL_sL, gL_sD, gD_sI, gD_sR, gD_sL, gD_sD, isK_sI, isK_sR, isK_sL, isK_sD, inL_sI, inL_sR, inL_sL, inL_sD, nx_sI, nx_sR, nx_sL, nx_sD, kd_sI, kd_sR, kd_sL, kd_sD, ln_sI, ln_sR, ln_sL, ln_sD, ↓reduceIte, c8_n, c8_1, c8_2, c8_3, c8_4, Nat.reduceAdd, k_s Sg, k_land Sg, k_nodes Sg, k_hear Sg, k_routes Sg, k_traffic Sg, k_market Sg, g_cnt Sg, r_land Sg, r_routes Sg, r_traffic Sg, r_market Sg, r_nodes Sg, r_hear Sg, r_rland Sg, r_tland Sg, r_troutes Sg, l_nodes Sg hk8, l_hear Sg hk8, r_node Sg hk8, r_queue Sg hk8, r_set Sg hk8, r_frames Sg hk8, r_bits Sg hk8, k_node Sg hk8, k_queue Sg hk8, k_frames Sg hk8, k_set Sg hk8, k_bits Sg hk8, ii_nat (lt31 hk8), le_f (n8 Sg) hm, hne, ii_succ, q_far _ Sg hm8 hk8, ef m hm8, er, hfar]
            · rw [decide_eq_true (Int32.not_lt.mp hfar), if_pos rfl]
              simp only [↓e_Land_findHearers_0, ↓e_Land_findHearers_1, ↓e_Land_findHearers_3, ↓e_Land_findHearers_4, ↓e_Land_findHearers_7, ↓e_Land_findHearers_10, ↓e_Land_findHearers_11, ↓e_Land_findHearers_12, ↓e_Land_findHearers_13, ↓e_Land_findHearers_15, ↓e_Land_findHearers_16, ↓e_Land_findHearers_19, ↓e_Land_findHearers_22, ↓e_Land_findHearers_23, ↓e_Land_findHearers_24, ↓e_Land_findHearers_27, ↓e_Land_findHearers_28, ↓e_Land_findHearers_29, ↓e_Land_findHearers_30, ↓e_Land_findHearers_33, ↓e_Land_findHearers_34, ↓e_Land_findHearers_37, ↓e_Land_findHearers_38, ↓e_Land_findHearers_39, ↓e_Land_findHearers_42, ↓e_Land_findHearers_43, ↓e_Land_findHearers_46, ↓e_Land_findHearers_47, ↓e_Land_findHearers_48, ↓e_Land_findHearers_51, ↓e_Land_findHearers_52, ↓e_Land_findHearers_55, ↓e_Land_findHearers_56, ↓e_Land_findHearers_57, ↓e_Land_findHearers_58, ↓e_Land_findHearers_59, ↓e_Land_findHearers_60, ↓e_Land_findHearers_61, ↓e_Land_findHearers_64, ↓e_Land_findHearers_67, ↓e_Land_findHearers_68, ↓e_Land_findHearers_71, ↓e_Land_findHearers_72, ↓e_Land_findHearers_73, ↓e_Land_findHearers_74, ↓e_Land_findHearers_77, ↓e_Land_findHearers_80, not_true_eq_false, not_false_eq_true, one0, true_or, or_true, eq_self, bI_z, bI_nz, bI_o, b_ft, bI_1, bI_0, ↓kC_l, ↓kC_r, Option.toList_some, Option.toList_none, List.cons_append, List.nil_append, s1_0, s1_1i, s1_1r, s1_1w, s1_1n, s1_s, s2_0, s2_1i, s2_1r, s2_1w, s2_1n, s2_s, gI_sI, gI_sR, gI_sL, gI_sD, gR_sI, gR_sR, gR_sL, gR_sD, gL_sI, gL_sR, gL_sL, gL_sD, gD_sI, gD_sR, gD_sL, gD_sD, isK_sI, isK_sR, isK_sL, isK_sD, inL_sI, inL_sR, inL_sL, inL_sD, nx_sI, nx_sR, nx_sL, nx_sD, kd_sI, kd_sR, kd_sL, kd_sD, ln_sI, ln_sR, ln_sL, ln_sD, ↓reduceIte, c8_n, c8_1, c8_2, c8_3, c8_4, Nat.reduceAdd, k_s Sg, k_land Sg, k_nodes Sg, k_hear Sg, k_routes Sg, k_traffic Sg, k_market Sg, g_cnt Sg, r_land Sg, r_routes Sg, r_traffic Sg, r_market Sg, r_nodes Sg, r_hear Sg, r_rland Sg, r_tland Sg, r_troutes Sg, l_nodes Sg hk8, l_hear Sg hk8, r_node Sg hk8, r_queue Sg hk8, r_set Sg hk8, r_frames Sg hk8, r_bits Sg hk8, k_node Sg hk8, k_queue Sg hk8, k_frames Sg hk8, k_set Sg hk8, k_bits Sg hk8, ii_nat (lt31 hk8), le_f (n8 Sg) hm, hne, ii_succ, q_far _ Sg hm8 hk8, ef m hm8, er, hfar]
              rfl) n 0 0 (by omega)
      generalize hs : upto (fun m s => if (decide (m ≠ k) && decide (farF h m k ≤ gI h (5 + 9 * k) 2 * gI h (5 + 9 * k) 2)) = true then s ||| bitN m else s) n 0 0 = s at e2
      refine ⟨(sI g 4 k s, some (.inl s), some (.inl (ii n))), fun Q => ?_, Fg.sI _ rfl, fun i hi => ?_⟩
      · rw [e_Land_findHearers_2]
        simp only [↓e_Land_findHearers_0, ↓e_Land_findHearers_1, ↓e_Land_findHearers_3, ↓e_Land_findHearers_4, ↓e_Land_findHearers_7, ↓e_Land_findHearers_10, ↓e_Land_findHearers_11, ↓e_Land_findHearers_12, ↓e_Land_findHearers_13, ↓e_Land_findHearers_15, ↓e_Land_findHearers_16, ↓e_Land_findHearers_19, ↓e_Land_findHearers_22, ↓e_Land_findHearers_23, ↓e_Land_findHearers_24, ↓e_Land_findHearers_27, ↓e_Land_findHearers_28, ↓e_Land_findHearers_29, ↓e_Land_findHearers_30, ↓e_Land_findHearers_33, ↓e_Land_findHearers_34, ↓e_Land_findHearers_37, ↓e_Land_findHearers_38, ↓e_Land_findHearers_39, ↓e_Land_findHearers_42, ↓e_Land_findHearers_43, ↓e_Land_findHearers_46, ↓e_Land_findHearers_47, ↓e_Land_findHearers_48, ↓e_Land_findHearers_51, ↓e_Land_findHearers_52, ↓e_Land_findHearers_55, ↓e_Land_findHearers_56, ↓e_Land_findHearers_57, ↓e_Land_findHearers_58, ↓e_Land_findHearers_59, ↓e_Land_findHearers_60, ↓e_Land_findHearers_61, ↓e_Land_findHearers_64, ↓e_Land_findHearers_67, ↓e_Land_findHearers_68, ↓e_Land_findHearers_71, ↓e_Land_findHearers_72, ↓e_Land_findHearers_73, ↓e_Land_findHearers_74, ↓e_Land_findHearers_77, ↓e_Land_findHearers_80, not_true_eq_false, not_false_eq_true, one0, true_or, or_true, eq_self, bI_z, bI_nz, bI_o, b_ft, bI_1, bI_0, ↓kC_l, ↓kC_r, Option.toList_some, Option.toList_none, List.cons_append, List.nil_append, s1_0, s1_1i, s1_1r, s1_1w, s1_1n, s1_s, s2_0, s2_1i, s2_1r, s2_1w, s2_1n, s2_s, gI_sI, gI_sR, gI_sL, gI_sD, gR_sI, gR_sR, gR_sL, gR_sD, gL_sI, gL_sR, gL_sL, gL_sD, gD_sI, gD_sR, gD_sL, gD_sD, isK_sI, isK_sR, isK_sL, isK_sD, inL_sI, inL_sR, inL_sL, inL_sD, nx_sI, nx_sR, nx_sL, nx_sD, kd_sI, kd_sR, kd_sL, kd_sD, ln_sI, ln_sR, ln_sL, ln_sD, ↓reduceIte, c8_n, c8_1, c8_2, c8_3, c8_4, Nat.reduceAdd, k_s Sg, k_land Sg, k_nodes Sg, k_hear Sg, k_routes Sg, k_traffic Sg, k_market Sg, g_cnt Sg, r_land Sg, r_routes Sg, r_traffic Sg, r_market Sg, r_nodes Sg, r_hear Sg, r_rland Sg, r_tland Sg, r_troutes Sg, le_f (n8 Sg) hk]
        refine (e2 Q).trans ?_
        rw [e_Land_findHearers_14]
        simp only [↓e_Land_findHearers_0, ↓e_Land_findHearers_1, ↓e_Land_findHearers_3, ↓e_Land_findHearers_4, ↓e_Land_findHearers_7, ↓e_Land_findHearers_10, ↓e_Land_findHearers_11, ↓e_Land_findHearers_12, ↓e_Land_findHearers_13, ↓e_Land_findHearers_15, ↓e_Land_findHearers_16, ↓e_Land_findHearers_19, ↓e_Land_findHearers_22, ↓e_Land_findHearers_23, ↓e_Land_findHearers_24, ↓e_Land_findHearers_27, ↓e_Land_findHearers_28, ↓e_Land_findHearers_29, ↓e_Land_findHearers_30, ↓e_Land_findHearers_33, ↓e_Land_findHearers_34, ↓e_Land_findHearers_37, ↓e_Land_findHearers_38, ↓e_Land_findHearers_39, ↓e_Land_findHearers_42, ↓e_Land_findHearers_43, ↓e_Land_findHearers_46, ↓e_Land_findHearers_47, ↓e_Land_findHearers_48, ↓e_Land_findHearers_51, ↓e_Land_findHearers_52, ↓e_Land_findHearers_55, ↓e_Land_findHearers_56, ↓e_Land_findHearers_57, ↓e_Land_findHearers_58, ↓e_Land_findHearers_59, ↓e_Land_findHearers_60, ↓e_Land_findHearers_61, ↓e_Land_findHearers_64, ↓e_Land_findHearers_67, ↓e_Land_findHearers_68, ↓e_Land_findHearers_71, ↓e_Land_findHearers_72, ↓e_Land_findHearers_73, ↓e_Land_findHearers_74, ↓e_Land_findHearers_77, ↓e_Land_findHearers_80, not_true_eq_false, not_false_eq_true, one0, true_or, or_true, eq_self, bI_z, bI_nz, bI_o, b_ft, bI_1, bI_0, ↓kC_l, ↓kC_r, Option.toList_some, Option.toList_none, List.cons_append, List.nil_append, s1_0, s1_1i, s1_1r, s1_1w, s1_1n, s1_s, s2_0, s2_1i, s2_1r, s2_1w, s2_1n, s2_s, gI_sI, gI_sR, gI_sL, gI_sD, gR_sI, gR_sR, gR_sL, gR_sD, gL_sI, gL_sR, gL_sL, gL_sD, gD_sI, gD_sR, gD_sL, gD_sD, isK_sI, isK_sR, isK_sL, isK_sD, inL_sI, inL_sR, inL_sL, inL_sD, nx_sI, nx_sR, nx_sL, nx_sD, kd_sI, kd_sR, kd_sL, kd_sD, ln_sI, ln_sR, ln_sL, ln_sD, ↓reduceIte, c8_n, c8_1, c8_2, c8_3, c8_4, Nat.reduceAdd, k_s Sg, k_land Sg, k_nodes Sg, k_hear Sg, k_routes Sg, k_traffic Sg, k_market Sg, g_cnt Sg, r_land Sg, r_routes Sg, r_traffic Sg, r_market Sg, r_nodes Sg, r_hear Sg, r_rland Sg, r_tland Sg, r_troutes Sg, l_nodes Sg hk8, l_hear Sg hk8, r_node Sg hk8, r_queue Sg hk8, r_set Sg hk8, r_frames Sg hk8, r_bits Sg hk8, k_node Sg hk8, k_queue Sg hk8, k_frames Sg hk8, k_set Sg hk8, k_bits Sg hk8, ii_nat (lt31 hk8), le_t (n8 Sg), ii_succ, (show ¬ (4 : Nat) = 0 by decide)]
      · dsimp only
        rw [gI_sI]
        by_cases e : i = k
        · rw [if_pos ⟨rfl, e⟩, e, hs]
        · rw [if_neg (fun q => e q.2)]; exact Hg i (by omega)) n 0 (h, none, none) (by omega) ⟨Fr.refl h, fun j hj => absurd hj (by omega)⟩
  dsimp only at e1 F H'
  have Sg : Str n g := S.fr F (by omega)
  refine ⟨g, fun Q => ?_, F, H'⟩
  simp only [↓e_Land_findHearers_0, ↓e_Land_findHearers_1, ↓e_Land_findHearers_3, ↓e_Land_findHearers_4, ↓e_Land_findHearers_7, ↓e_Land_findHearers_10, ↓e_Land_findHearers_11, ↓e_Land_findHearers_12, ↓e_Land_findHearers_13, ↓e_Land_findHearers_15, ↓e_Land_findHearers_16, ↓e_Land_findHearers_19, ↓e_Land_findHearers_22, ↓e_Land_findHearers_23, ↓e_Land_findHearers_24, ↓e_Land_findHearers_27, ↓e_Land_findHearers_28, ↓e_Land_findHearers_29, ↓e_Land_findHearers_30, ↓e_Land_findHearers_33, ↓e_Land_findHearers_34, ↓e_Land_findHearers_37, ↓e_Land_findHearers_38, ↓e_Land_findHearers_39, ↓e_Land_findHearers_42, ↓e_Land_findHearers_43, ↓e_Land_findHearers_46, ↓e_Land_findHearers_47, ↓e_Land_findHearers_48, ↓e_Land_findHearers_51, ↓e_Land_findHearers_52, ↓e_Land_findHearers_55, ↓e_Land_findHearers_56, ↓e_Land_findHearers_57, ↓e_Land_findHearers_58, ↓e_Land_findHearers_59, ↓e_Land_findHearers_60, ↓e_Land_findHearers_61, ↓e_Land_findHearers_64, ↓e_Land_findHearers_67, ↓e_Land_findHearers_68, ↓e_Land_findHearers_71, ↓e_Land_findHearers_72, ↓e_Land_findHearers_73, ↓e_Land_findHearers_74, ↓e_Land_findHearers_77, ↓e_Land_findHearers_80, not_true_eq_false, not_false_eq_true, one0, true_or, or_true, eq_self, bI_z, bI_nz, bI_o, b_ft, bI_1, bI_0, ↓kC_l, ↓kC_r, Option.toList_some, Option.toList_none, List.cons_append, List.nil_append, s1_0, s1_1i, s1_1r, s1_1w, s1_1n, s1_s, s2_0, s2_1i, s2_1r, s2_1w, s2_1n, s2_s, gI_sI, gI_sR, gI_sL, gI_sD, gR_sI, gR_sR, gR_sL, gR_sD, gL_sI, gL_sR, gL_sL, gL_sD, gD_sI, gD_sR, gD_sL, gD_sD, isK_sI, isK_sR, isK_sL, isK_sD, inL_sI, inL_sR, inL_sL, inL_sD, nx_sI, nx_sR, nx_sL, nx_sD, kd_sI, kd_sR, kd_sL, kd_sD, ln_sI, ln_sR, ln_sL, ln_sD, ↓reduceIte, c8_n, c8_1, c8_2, c8_3, c8_4, Nat.reduceAdd]
  refine (e1 Q).trans ?_
  rw [e_Land_findHearers_2]
  simp only [↓e_Land_findHearers_0, ↓e_Land_findHearers_1, ↓e_Land_findHearers_3, ↓e_Land_findHearers_4, ↓e_Land_findHearers_7, ↓e_Land_findHearers_10, ↓e_Land_findHearers_11, ↓e_Land_findHearers_12, ↓e_Land_findHearers_13, ↓e_Land_findHearers_15, ↓e_Land_findHearers_16, ↓e_Land_findHearers_19, ↓e_Land_findHearers_22, ↓e_Land_findHearers_23, ↓e_Land_findHearers_24, ↓e_Land_findHearers_27, ↓e_Land_findHearers_28, ↓e_Land_findHearers_29, ↓e_Land_findHearers_30, ↓e_Land_findHearers_33, ↓e_Land_findHearers_34, ↓e_Land_findHearers_37, ↓e_Land_findHearers_38, ↓e_Land_findHearers_39, ↓e_Land_findHearers_42, ↓e_Land_findHearers_43, ↓e_Land_findHearers_46, ↓e_Land_findHearers_47, ↓e_Land_findHearers_48, ↓e_Land_findHearers_51, ↓e_Land_findHearers_52, ↓e_Land_findHearers_55, ↓e_Land_findHearers_56, ↓e_Land_findHearers_57, ↓e_Land_findHearers_58, ↓e_Land_findHearers_59, ↓e_Land_findHearers_60, ↓e_Land_findHearers_61, ↓e_Land_findHearers_64, ↓e_Land_findHearers_67, ↓e_Land_findHearers_68, ↓e_Land_findHearers_71, ↓e_Land_findHearers_72, ↓e_Land_findHearers_73, ↓e_Land_findHearers_74, ↓e_Land_findHearers_77, ↓e_Land_findHearers_80, not_true_eq_false, not_false_eq_true, one0, true_or, or_true, eq_self, bI_z, bI_nz, bI_o, b_ft, bI_1, bI_0, ↓kC_l, ↓kC_r, Option.toList_some, Option.toList_none, List.cons_append, List.nil_append, s1_0, s1_1i, s1_1r, s1_1w, s1_1n, s1_s, s2_0, s2_1i, s2_1r, s2_1w, s2_1n, s2_s, gI_sI, gI_sR, gI_sL, gI_sD, gR_sI, gR_sR, gR_sL, gR_sD, gL_sI, gL_sR, gL_sL, gL_sD, gD_sI, gD_sR, gD_sL, gD_sD, isK_sI, isK_sR, isK_sL, isK_sD, inL_sI, inL_sR, inL_sL, inL_sD, nx_sI, nx_sR, nx_sL, nx_sD, kd_sI, kd_sR, kd_sL, kd_sD, ln_sI, ln_sR, ln_sL, ln_sD, ↓reduceIte, c8_n, c8_1, c8_2, c8_3, c8_4, Nat.reduceAdd, k_s Sg, k_land Sg, k_nodes Sg, k_hear Sg, k_routes Sg, k_traffic Sg, k_market Sg, g_cnt Sg, r_land Sg, r_routes Sg, r_traffic Sg, r_market Sg, r_nodes Sg, r_hear Sg, r_rland Sg, r_tland Sg, r_troutes Sg, le_t (n8 Sg)]
/-- the hearers in values, where the nodes' places and reaches are -/
theorem hs_of (e : ∀ i f, i < n → f ≤ 2 → gI h (5 + 9 * i) f = β.1 i f) {j : Nat} (hj : j < n) : upto (fun k s => if (decide (k ≠ j) && decide (farF h k j ≤ gI h (5 + 9 * j) 2 * gI h (5 + 9 * j) 2)) = true then s ||| bitN k else s) n 0 0 = hs9 n β j := by
  unfold hs9
  refine upto_congr n 0 0 fun k s _ hk => ?_
  have : (decide (k ≠ j) && decide (farF h k j ≤ gI h (5 + 9 * j) 2 * gI h (5 + 9 * j) 2)) = hr9 β k j := by
    unfold hr9 farF fX
    rw [e k 0 (by omega) (by omega), e j 0 hj (by omega), e k 1 (by omega) (by omega), e j 1 hj (by omega), e j 2 hj (by omega)]
  rw [this]
theorem CA.geo {i : Nat} (V : CA n h α) (hn : n ≤ 8) (hi : i < n) (F : Fr (wXY i) nW nW h h') (e2 : β.2 = α.2) (e1 : ∀ a k, ¬ (a = i ∧ k ≤ 3) → β.1 a k = α.1 a k) (e3 : ∀ f, f ≤ 3 → gI h' (5 + 9 * i) f = β.1 i f) (e4 : Ch n h' β) : CA n h' β := by
  obtain ⟨v1, v2, v3, v4, ⟨v5, v6, v7⟩, v8, v9, v10, v11⟩ := V
  have eI : ∀ a k, ¬ (a = 4 ∨ (a = 5 + 9 * i ∧ k ≤ 3)) → gI h' a k = gI h a k := fun a k q => F.1 a k q
  have q1 : β.2.1 = α.2.1 := by rw [e2]
  have q2 : β.2.2.1 = α.2.2.1 := by rw [e2]
  have q3 : β.2.2.2 = α.2.2.2 := by rw [e2]
  refine ⟨fun j hj f h1 h2 => ?_, fun j hj => ?_, v3.fr fun j k _ _ => F.2.1 _ _ (fun w => w), e4, ⟨fun k h1 h2 => ?_, ?_, ?_⟩, fun j k hj hk => ?_, ?_, v10.fr fun j f h1 h2 => eI _ _ (by omega), fun j hj => ?_⟩
  · by_cases e : j = i ∧ f ≤ 3
    · obtain ⟨rfl, e⟩ := e
      exact e3 f e
    · rw [eI _ _ (by omega), e1 _ _ e]
      exact v1 j hj f h1 h2
  · have := (v2 j hj).fr (h' := h') (eI _ _ (by omega)) (fun a k _ _ => eI _ _ (by omega)) (fun k _ => F.2.1 _ _ (fun w => w))
    unfold Cq at this ⊢
    rw [q1, q2]
    exact this
  · rw [eI _ _ (by omega), e1 _ _ (by omega)]; exact v5 k h1 h2
  · rw [eI _ _ (by omega), e1 _ _ (by omega)]; exact v6
  · rw [eI _ _ (by omega), e1 _ _ (by omega)]; exact v7
  · rw [q3, ← v8 j k hj hk]
    unfold mb
    rw [F.2.2.1 _ _ (fun w => w)]
  · obtain ⟨c, R, w1, w2, w3⟩ := v9.fr (h' := h') hn (fun a k _ _ => eI _ _ (by omega)) (fun k => F.2.1 _ _ (fun w => w))
    exact ⟨c, R, fun a ha b hb => by rw [e1 _ _ (by omega), e1 _ _ (by omega)]; exact w1 a ha b hb, w2, w3⟩
  · obtain ⟨b1, b2⟩ := v11 j hj
    exact ⟨by rw [e1 _ _ (by omega)]; exact b1, fun k hk => by rw [e1 _ _ (by omega), e1 _ _ (by omega)]; exact b2 k hk⟩
theorem ca_put (V : CA n h α) (S : Str n h) {i : Nat} (hi : i < n) (x y : Int32) : ∃ h', (∀ Q, WP Gm j_Land_put 0 [some (.inr (.inl (some 2))), some (.inl (ii i)), some (.inl x), some (.inl y)] [] h Q = Q (.inl none) h') ∧ CA n h' (asV (asV α i 0 x) i 1 y) ∧ Str n h' := by
  have hn := n8 S
  have hi8 : i < 8 := by omega
  generalize hg : sI (sI h (5 + 9 * i) 0 x) (5 + 9 * i) 1 y = g
  have Fg : Fr (wXY i) nW nW h g := by rw [← hg]; exact ((Fr.refl h).sI _ (Or.inr ⟨rfl, by omega⟩)).sI _ (Or.inr ⟨rfl, by omega⟩)
  have Sg : Str n g := by rw [← hg]; exact (S.sI _ (by omega)).sI _ (by omega)
  obtain ⟨g', r1, r2, r3⟩ := ca_findH Sg
  have F' : Fr (wXY i) nW nW h g' := Fg.trans (r2.mono (fun a k w => Or.inl w) (fun _ _ w => w) (fun _ _ w => w))
  have ev : ∀ j f, j < n → f ≤ 14 → f ≠ 4 → gI g (5 + 9 * j) f = (asV (asV α i 0 x) i 1 y).1 j f := fun j f hj hf h4 => by
    rw [← hg, gI_sI, gI_sI]
    show _ = (if j = i ∧ f = 1 then y else if j = i ∧ f = 0 then x else α.1 j f)
    by_cases e : j = i
    · subst e
      by_cases e1 : f = 1
      · rw [if_pos ⟨rfl, e1⟩, if_pos ⟨rfl, e1⟩]
      · by_cases e0 : f = 0
        · rw [if_neg (fun w => e1 w.2), if_pos ⟨rfl, e0⟩, if_neg (fun w => e1 w.2), if_pos ⟨rfl, e0⟩]
        · rw [if_neg (fun w => e1 w.2), if_neg (fun w => e0 w.2), if_neg (fun w => e1 w.2), if_neg (fun w => e0 w.2)]
          exact V.1 j hj f hf h4
    · rw [if_neg (by omega), if_neg (by omega), if_neg (by omega), if_neg (by omega)]
      exact V.1 j hj f hf h4
  refine ⟨g', fun Q => ?_, V.geo hn hi F' rfl (fun a k q => (asV_n _ _ (by omega)).trans (asV_n _ _ (by omega))) (fun f hf => by rw [r2.1 _ _ (by omega)]; exact ev i f hi (by omega) (by omega)) (fun j hj => (r3 j hj).trans (hs_of (fun a f ha hf => ev a f ha (by omega) (by omega)) hj)), Sg.fr r2 (by omega)⟩
  simp only [↓e_Land_put_0, ↓e_Land_put_1, ↓e_Land_put_4, ↓e_Land_put_5, ↓e_Land_put_6, ↓e_Land_put_7, ↓e_Land_put_10, ↓e_Land_put_11, ↓e_Land_put_14, ↓e_Land_put_15, ↓e_Land_put_16, ↓e_Land_put_17, ↓e_Land_put_20, ↓e_Land_put_21, ↓e_Land_put_24, not_true_eq_false, not_false_eq_true, one0, true_or, or_true, eq_self, bI_z, bI_nz, bI_o, b_ft, bI_1, bI_0, ↓kC_l, ↓kC_r, Option.toList_some, Option.toList_none, List.cons_append, List.nil_append, s1_0, s1_1i, s1_1r, s1_1w, s1_1n, s1_s, s2_0, s2_1i, s2_1r, s2_1w, s2_1n, s2_s, gI_sI, gI_sR, gI_sL, gI_sD, gR_sI, gR_sR, gR_sL, gR_sD, gL_sI, gL_sR, gL_sL, gL_sD, gD_sI, gD_sR, gD_sL, gD_sD, isK_sI, isK_sR, isK_sL, isK_sD, inL_sI, inL_sR, inL_sL, inL_sD, nx_sI, nx_sR, nx_sL, nx_sD, kd_sI, kd_sR, kd_sL, kd_sD, ln_sI, ln_sR, ln_sL, ln_sD, ↓reduceIte, c8_n, c8_1, c8_2, c8_3, c8_4, Nat.reduceAdd, k_s S, k_land S, k_nodes S, k_hear S, k_routes S, k_traffic S, k_market S, g_cnt S, r_land S, r_routes S, r_traffic S, r_market S, r_nodes S, r_hear S, r_rland S, r_tland S, r_troutes S, l_nodes S hi8, l_hear S hi8, r_node S hi8, r_queue S hi8, r_set S hi8, r_frames S hi8, r_bits S hi8, k_node S hi8, k_queue S hi8, k_frames S hi8, k_set S hi8, k_bits S hi8, ii_nat (lt31 hi8), hg, k_land Sg, r1]
theorem ca_adj (V : CA n h α) (S : Str n h) {i : Nat} (hi : i < n) (x : Int32) {y : Int32} (hy : y = 0 ∨ y = 1) : ∃ h', (∀ Q, WP Gm j_Land_adjust 0 [some (.inr (.inl (some 2))), some (.inl (ii i)), some (.inl x), some (.inl y)] [] h Q = Q (.inl none) h') ∧ CA n h' (asV (asV α i 2 x) i 3 y) ∧ Str n h' := by
  have hn := n8 S
  have hi8 : i < 8 := by omega
  generalize hg : sI (sI h (5 + 9 * i) 2 x) (5 + 9 * i) 3 y = g
  have Fg : Fr (wXY i) nW nW h g := by rw [← hg]; exact ((Fr.refl h).sI _ (Or.inr ⟨rfl, by omega⟩)).sI _ (Or.inr ⟨rfl, by omega⟩)
  have Sg : Str n g := by rw [← hg]; exact (S.sI _ (by omega)).sI _ (by omega)
  obtain ⟨g', r1, r2, r3⟩ := ca_findH Sg
  have F' : Fr (wXY i) nW nW h g' := Fg.trans (r2.mono (fun a k w => Or.inl w) (fun _ _ w => w) (fun _ _ w => w))
  have ev : ∀ j f, j < n → f ≤ 14 → f ≠ 4 → gI g (5 + 9 * j) f = (asV (asV α i 2 x) i 3 y).1 j f := fun j f hj hf h4 => by
    rw [← hg, gI_sI, gI_sI]
    show _ = (if j = i ∧ f = 3 then y else if j = i ∧ f = 2 then x else α.1 j f)
    by_cases e : j = i
    · subst e
      by_cases e1 : f = 3
      · rw [if_pos ⟨rfl, e1⟩, if_pos ⟨rfl, e1⟩]
      · by_cases e0 : f = 2
        · rw [if_neg (fun w => e1 w.2), if_pos ⟨rfl, e0⟩, if_neg (fun w => e1 w.2), if_pos ⟨rfl, e0⟩]
        · rw [if_neg (fun w => e1 w.2), if_neg (fun w => e0 w.2), if_neg (fun w => e1 w.2), if_neg (fun w => e0 w.2)]
          exact V.1 j hj f hf h4
    · rw [if_neg (by omega), if_neg (by omega), if_neg (by omega), if_neg (by omega)]
      exact V.1 j hj f hf h4
  refine ⟨g', fun Q => ?_, V.geo hn hi F' rfl (fun a k q => (asV_n _ _ (by omega)).trans (asV_n _ _ (by omega))) (fun f hf => by rw [r2.1 _ _ (by omega)]; exact ev i f hi (by omega) (by omega)) (fun j hj => (r3 j hj).trans (hs_of (fun a f ha hf => ev a f ha (by omega) (by omega)) hj)), Sg.fr r2 (by omega)⟩
  simp only [↓e_Land_adjust_0, ↓e_Land_adjust_1, ↓e_Land_adjust_4, ↓e_Land_adjust_5, ↓e_Land_adjust_6, ↓e_Land_adjust_7, ↓e_Land_adjust_10, ↓e_Land_adjust_11, ↓e_Land_adjust_14, ↓e_Land_adjust_15, ↓e_Land_adjust_16, ↓e_Land_adjust_17, ↓e_Land_adjust_20, ↓e_Land_adjust_21, ↓e_Land_adjust_24, not_true_eq_false, not_false_eq_true, one0, true_or, or_true, eq_self, bI_z, bI_nz, bI_o, b_ft, bI_1, bI_0, ↓kC_l, ↓kC_r, Option.toList_some, Option.toList_none, List.cons_append, List.nil_append, s1_0, s1_1i, s1_1r, s1_1w, s1_1n, s1_s, s2_0, s2_1i, s2_1r, s2_1w, s2_1n, s2_s, gI_sI, gI_sR, gI_sL, gI_sD, gR_sI, gR_sR, gR_sL, gR_sD, gL_sI, gL_sR, gL_sL, gL_sD, gD_sI, gD_sR, gD_sL, gD_sD, isK_sI, isK_sR, isK_sL, isK_sD, inL_sI, inL_sR, inL_sL, inL_sD, nx_sI, nx_sR, nx_sL, nx_sD, kd_sI, kd_sR, kd_sL, kd_sD, ln_sI, ln_sR, ln_sL, ln_sD, ↓reduceIte, c8_n, c8_1, c8_2, c8_3, c8_4, Nat.reduceAdd, k_s S, k_land S, k_nodes S, k_hear S, k_routes S, k_traffic S, k_market S, g_cnt S, r_land S, r_routes S, r_traffic S, r_market S, r_nodes S, r_hear S, r_rland S, r_tland S, r_troutes S, l_nodes S hi8, l_hear S hi8, r_node S hi8, r_queue S hi8, r_set S hi8, r_frames S hi8, r_bits S hi8, k_node S hi8, k_queue S hi8, k_frames S hi8, k_set S hi8, k_bits S hi8, ii_nat (lt31 hi8), hy, hg, k_land Sg, r1]
/-- the linked ones -/
theorem ca_lw (V : CA n h α) (hn : n ≤ 8) {i : Nat} (hi : i < n) : lwF n h i = lk9 n α i := by
  unfold lwF lk9
  refine upto_congr n 0 0 fun k s _ hk => ?_
  rw [ca_ch V hn hi (show k < n by omega), ca_ch V hn (show k < n by omega) hi]
  cases hr9 α i k && hr9 α k i with
  | true => rfl
  | false =>
    rw [if_neg (by decide)]
    have e1 : ∀ k, k < 8 → (bI false <<< (ii k &&& 31) : Int32) = 0 := by decide
    have e2 : (s ||| 0 : Int32) = s := by
      apply Int32.toBitVec_inj.mp
      rw [Int32.toBitVec_or]
      simp
    rw [e1 k (by omega), e2]
theorem vx_move (A : AI n h) (V : CA n h α) (hr : okR cM sM h 1 6 = true) (x y z : Int32) : ∃ rs h', (∀ Q, WP Gm j_S_move 0 [some (.inr (.inl (some 1))), some (.inl x), some (.inl y), some (.inl z)] [] h Q = Q rs h') ∧ vr9 mA9 rs (mov9 n α x y z) ∧ CA n h' (mov9 n α x y z).2.2 := by
  have S := A.1
  have hn := n8 S
  unfold mov9
  cases hb : isN n x with
  | false =>
    rw [if_pos rfl]
    refine ⟨.inr 2, _, fun Q => ?_, Or.inr ⟨2, by omega, rfl, rfl⟩, V.ex S (Ex.hN h kc_IndexOutOfBoundsException 0 6)⟩
    simp only [↓e_S_move_0, ↓e_S_move_1, ↓e_S_move_2, ↓e_S_move_5, ↓e_S_move_6, ↓e_S_move_7, ↓e_S_move_10, ↓e_S_move_13, ↓e_S_move_23, ↓e_S_move_24, ↓e_S_move_25, ↓e_S_move_28, ↓e_S_move_29, ↓e_S_move_32, ↓e_S_move_33, ↓e_S_move_34, ↓e_S_move_35, ↓e_S_move_38, ↓e_S_move_39, ↓e_S_move_42, ↓e_S_move_43, ↓e_S_move_46, ↓e_S_move_49, not_true_eq_false, not_false_eq_true, one0, true_or, or_true, eq_self, bI_z, bI_nz, bI_o, b_ft, bI_1, bI_0, ↓kC_l, ↓kC_r, Option.toList_some, Option.toList_none, List.cons_append, List.nil_append, s1_0, s1_1i, s1_1r, s1_1w, s1_1n, s1_s, s2_0, s2_1i, s2_1r, s2_1w, s2_1n, s2_s, gI_sI, gI_sR, gI_sL, gI_sD, gR_sI, gR_sR, gR_sL, gR_sD, gL_sI, gL_sR, gL_sL, gL_sD, gD_sI, gD_sR, gD_sL, gD_sD, isK_sI, isK_sR, isK_sL, isK_sD, inL_sI, inL_sR, inL_sL, inL_sD, nx_sI, nx_sR, nx_sL, nx_sD, kd_sI, kd_sR, kd_sL, kd_sD, ln_sI, ln_sR, ln_sL, ln_sD, ↓reduceIte, c8_n, c8_1, c8_2, c8_3, c8_4, Nat.reduceAdd, k_s S, k_land S, k_nodes S, k_hear S, k_routes S, k_traffic S, k_market S, g_cnt S, r_land S, r_routes S, r_traffic S, r_market S, r_nodes S, r_hear S, r_rland S, r_tland S, r_troutes S, c_no9 S hr hb]
  | true =>
    obtain ⟨i, hi, rfl⟩ := isN_ex hn hb
    have hi8 : i < 8 := by omega
    rw [if_neg (by decide), tn_ii (show i < 2147483648 by omega)]
    cases e1 : ((decide (0 ≤ y) && decide (y ≤ 29)) && (decide (0 ≤ z) && decide (z ≤ 29))) with
    | false =>
      rw [if_pos rfl]
      refine ⟨.inr 0, _, fun Q => ?_, Or.inr ⟨0, by omega, rfl, rfl⟩, V.ex S (Ex.hN h kc_IllegalArgumentException 0 6)⟩
      simp only [↓e_S_move_0, ↓e_S_move_1, ↓e_S_move_2, ↓e_S_move_5, ↓e_S_move_6, ↓e_S_move_7, ↓e_S_move_10, ↓e_S_move_13, ↓e_S_move_23, ↓e_S_move_24, ↓e_S_move_25, ↓e_S_move_28, ↓e_S_move_29, ↓e_S_move_32, ↓e_S_move_33, ↓e_S_move_34, ↓e_S_move_35, ↓e_S_move_38, ↓e_S_move_39, ↓e_S_move_42, ↓e_S_move_43, ↓e_S_move_46, ↓e_S_move_49, not_true_eq_false, not_false_eq_true, one0, true_or, or_true, eq_self, bI_z, bI_nz, bI_o, b_ft, bI_1, bI_0, ↓kC_l, ↓kC_r, Option.toList_some, Option.toList_none, List.cons_append, List.nil_append, s1_0, s1_1i, s1_1r, s1_1w, s1_1n, s1_s, s2_0, s2_1i, s2_1r, s2_1w, s2_1n, s2_s, gI_sI, gI_sR, gI_sL, gI_sD, gR_sI, gR_sR, gR_sL, gR_sD, gL_sI, gL_sR, gL_sL, gL_sD, gD_sI, gD_sR, gD_sL, gD_sD, isK_sI, isK_sR, isK_sL, isK_sD, inL_sI, inL_sR, inL_sL, inL_sD, nx_sI, nx_sR, nx_sL, nx_sD, kd_sI, kd_sR, kd_sL, kd_sD, ln_sI, ln_sR, ln_sL, ln_sD, ↓reduceIte, c8_n, c8_1, c8_2, c8_3, c8_4, Nat.reduceAdd, k_s S, k_land S, k_nodes S, k_hear S, k_routes S, k_traffic S, k_market S, g_cnt S, r_land S, r_routes S, r_traffic S, r_market S, r_nodes S, r_hear S, r_rland S, r_tland S, r_troutes S, q_checkNode _ S hi, q_isPlace, e1, hr]
    | true =>
      rw [if_neg (by decide)]
      have e7 := V.1 i hi 7 (by omega) (by omega)
      by_cases h7 : 0 < α.1 i 7
      · rw [if_pos h7]
        rw [← e7] at h7
        refine ⟨.inr 1, _, fun Q => ?_, Or.inr ⟨1, by omega, rfl, rfl⟩, V.ex S (Ex.hN h kc_IllegalStateException 0 6)⟩
        simp only [↓e_S_move_0, ↓e_S_move_1, ↓e_S_move_2, ↓e_S_move_5, ↓e_S_move_6, ↓e_S_move_7, ↓e_S_move_10, ↓e_S_move_13, ↓e_S_move_23, ↓e_S_move_24, ↓e_S_move_25, ↓e_S_move_28, ↓e_S_move_29, ↓e_S_move_32, ↓e_S_move_33, ↓e_S_move_34, ↓e_S_move_35, ↓e_S_move_38, ↓e_S_move_39, ↓e_S_move_42, ↓e_S_move_43, ↓e_S_move_46, ↓e_S_move_49, not_true_eq_false, not_false_eq_true, one0, true_or, or_true, eq_self, bI_z, bI_nz, bI_o, b_ft, bI_1, bI_0, ↓kC_l, ↓kC_r, Option.toList_some, Option.toList_none, List.cons_append, List.nil_append, s1_0, s1_1i, s1_1r, s1_1w, s1_1n, s1_s, s2_0, s2_1i, s2_1r, s2_1w, s2_1n, s2_s, gI_sI, gI_sR, gI_sL, gI_sD, gR_sI, gR_sR, gR_sL, gR_sD, gL_sI, gL_sR, gL_sL, gL_sD, gD_sI, gD_sR, gD_sL, gD_sD, isK_sI, isK_sR, isK_sL, isK_sD, inL_sI, inL_sR, inL_sL, inL_sD, nx_sI, nx_sR, nx_sL, nx_sD, kd_sI, kd_sR, kd_sL, kd_sD, ln_sI, ln_sR, ln_sL, ln_sD, ↓reduceIte, c8_n, c8_1, c8_2, c8_3, c8_4, Nat.reduceAdd, k_s S, k_land S, k_nodes S, k_hear S, k_routes S, k_traffic S, k_market S, g_cnt S, r_land S, r_routes S, r_traffic S, r_market S, r_nodes S, r_hear S, r_rland S, r_tland S, r_troutes S, q_checkNode _ S hi, q_isPlace, e1, q_checkSilent _ S hi8 hr, h7]
      · rw [if_neg h7]
        rw [← e7] at h7
        obtain ⟨u, u1, u2, u3⟩ := ca_put V S hi y z
        refine ⟨.inl (some (.inl (pcI (lwF n u i)))), u, fun Q => ?_, Or.inl ⟨rfl, ?_⟩, u2⟩
        · simp only [↓e_S_move_0, ↓e_S_move_1, ↓e_S_move_2, ↓e_S_move_5, ↓e_S_move_6, ↓e_S_move_7, ↓e_S_move_10, ↓e_S_move_13, ↓e_S_move_23, ↓e_S_move_24, ↓e_S_move_25, ↓e_S_move_28, ↓e_S_move_29, ↓e_S_move_32, ↓e_S_move_33, ↓e_S_move_34, ↓e_S_move_35, ↓e_S_move_38, ↓e_S_move_39, ↓e_S_move_42, ↓e_S_move_43, ↓e_S_move_46, ↓e_S_move_49, not_true_eq_false, not_false_eq_true, one0, true_or, or_true, eq_self, bI_z, bI_nz, bI_o, b_ft, bI_1, bI_0, ↓kC_l, ↓kC_r, Option.toList_some, Option.toList_none, List.cons_append, List.nil_append, s1_0, s1_1i, s1_1r, s1_1w, s1_1n, s1_s, s2_0, s2_1i, s2_1r, s2_1w, s2_1n, s2_s, gI_sI, gI_sR, gI_sL, gI_sD, gR_sI, gR_sR, gR_sL, gR_sD, gL_sI, gL_sR, gL_sL, gL_sD, gD_sI, gD_sR, gD_sL, gD_sD, isK_sI, isK_sR, isK_sL, isK_sD, inL_sI, inL_sR, inL_sL, inL_sD, nx_sI, nx_sR, nx_sL, nx_sD, kd_sI, kd_sR, kd_sL, kd_sD, ln_sI, ln_sR, ln_sL, ln_sD, ↓reduceIte, c8_n, c8_1, c8_2, c8_3, c8_4, Nat.reduceAdd, k_s S, k_land S, k_nodes S, k_hear S, k_routes S, k_traffic S, k_market S, g_cnt S, r_land S, r_routes S, r_traffic S, r_market S, r_nodes S, r_hear S, r_rland S, r_tland S, r_troutes S, q_checkNode _ S hi, q_isPlace, e1, q_checkSilent _ S hi8 hr, h7, u1, k_s u3, k_land u3, k_nodes u3, k_hear u3, k_routes u3, k_traffic u3, k_market u3, g_cnt u3, r_land u3, r_routes u3, r_traffic u3, r_market u3, r_nodes u3, r_hear u3, r_rland u3, r_tland u3, r_troutes u3, q_linkedWith _ u3 hi8, q_bitCount]
        · rw [ca_lw u2 hn hi]
theorem vx_tune (A : AI n h) (V : CA n h α) (hr : okR cM sM h 1 6 = true) (x y : Int32) {z : Int32} (hz : z = 0 ∨ z = 1) : ∃ rs h', (∀ Q, WP Gm j_S_tune 0 [some (.inr (.inl (some 1))), some (.inl x), some (.inl y), some (.inl z), none] [] h Q = Q rs h') ∧ vr9 mA9 rs (tun9 n α x y z) ∧ CA n h' (tun9 n α x y z).2.2 := by
  have S := A.1
  have hn := n8 S
  unfold tun9
  cases hb : isN n x with
  | false =>
    rw [if_pos rfl]
    refine ⟨.inr 2, _, fun Q => ?_, Or.inr ⟨2, by omega, rfl, rfl⟩, V.ex S (Ex.hN h kc_IndexOutOfBoundsException 0 6)⟩
    simp only [↓e_S_tune_0, ↓e_S_tune_1, ↓e_S_tune_2, ↓e_S_tune_5, ↓e_S_tune_6, ↓e_S_tune_9, ↓e_S_tune_12, ↓e_S_tune_22, ↓e_S_tune_23, ↓e_S_tune_24, ↓e_S_tune_27, ↓e_S_tune_28, ↓e_S_tune_31, ↓e_S_tune_34, ↓e_S_tune_35, ↓e_S_tune_36, ↓e_S_tune_39, ↓e_S_tune_41, ↓e_S_tune_42, ↓e_S_tune_45, ↓e_S_tune_46, ↓e_S_tune_47, ↓e_S_tune_48, ↓e_S_tune_51, ↓e_S_tune_53, not_true_eq_false, not_false_eq_true, one0, true_or, or_true, eq_self, bI_z, bI_nz, bI_o, b_ft, bI_1, bI_0, ↓kC_l, ↓kC_r, Option.toList_some, Option.toList_none, List.cons_append, List.nil_append, s1_0, s1_1i, s1_1r, s1_1w, s1_1n, s1_s, s2_0, s2_1i, s2_1r, s2_1w, s2_1n, s2_s, gI_sI, gI_sR, gI_sL, gI_sD, gR_sI, gR_sR, gR_sL, gR_sD, gL_sI, gL_sR, gL_sL, gL_sD, gD_sI, gD_sR, gD_sL, gD_sD, isK_sI, isK_sR, isK_sL, isK_sD, inL_sI, inL_sR, inL_sL, inL_sD, nx_sI, nx_sR, nx_sL, nx_sD, kd_sI, kd_sR, kd_sL, kd_sD, ln_sI, ln_sR, ln_sL, ln_sD, ↓reduceIte, c8_n, c8_1, c8_2, c8_3, c8_4, Nat.reduceAdd, k_s S, k_land S, k_nodes S, k_hear S, k_routes S, k_traffic S, k_market S, g_cnt S, r_land S, r_routes S, r_traffic S, r_market S, r_nodes S, r_hear S, r_rland S, r_tland S, r_troutes S, c_no9 S hr hb]
  | true =>
    obtain ⟨i, hi, rfl⟩ := isN_ex hn hb
    have hi8 : i < 8 := by omega
    rw [if_neg (by decide), tn_ii (show i < 2147483648 by omega)]
    cases e1 : (decide (1 ≤ y) && decide (y ≤ 42)) with
    | false =>
      rw [if_pos rfl]
      refine ⟨.inr 0, _, fun Q => ?_, Or.inr ⟨0, by omega, rfl, rfl⟩, V.ex S (Ex.hN h kc_IllegalArgumentException 0 6)⟩
      simp only [↓e_S_tune_0, ↓e_S_tune_1, ↓e_S_tune_2, ↓e_S_tune_5, ↓e_S_tune_6, ↓e_S_tune_9, ↓e_S_tune_12, ↓e_S_tune_22, ↓e_S_tune_23, ↓e_S_tune_24, ↓e_S_tune_27, ↓e_S_tune_28, ↓e_S_tune_31, ↓e_S_tune_34, ↓e_S_tune_35, ↓e_S_tune_36, ↓e_S_tune_39, ↓e_S_tune_41, ↓e_S_tune_42, ↓e_S_tune_45, ↓e_S_tune_46, ↓e_S_tune_47, ↓e_S_tune_48, ↓e_S_tune_51, ↓e_S_tune_53, not_true_eq_false, not_false_eq_true, one0, true_or, or_true, eq_self, bI_z, bI_nz, bI_o, b_ft, bI_1, bI_0, ↓kC_l, ↓kC_r, Option.toList_some, Option.toList_none, List.cons_append, List.nil_append, s1_0, s1_1i, s1_1r, s1_1w, s1_1n, s1_s, s2_0, s2_1i, s2_1r, s2_1w, s2_1n, s2_s, gI_sI, gI_sR, gI_sL, gI_sD, gR_sI, gR_sR, gR_sL, gR_sD, gL_sI, gL_sR, gL_sL, gL_sD, gD_sI, gD_sR, gD_sL, gD_sD, isK_sI, isK_sR, isK_sL, isK_sD, inL_sI, inL_sR, inL_sL, inL_sD, nx_sI, nx_sR, nx_sL, nx_sD, kd_sI, kd_sR, kd_sL, kd_sD, ln_sI, ln_sR, ln_sL, ln_sD, ↓reduceIte, c8_n, c8_1, c8_2, c8_3, c8_4, Nat.reduceAdd, k_s S, k_land S, k_nodes S, k_hear S, k_routes S, k_traffic S, k_market S, g_cnt S, r_land S, r_routes S, r_traffic S, r_market S, r_nodes S, r_hear S, r_rland S, r_tland S, r_troutes S, q_checkNode _ S hi, q_isReach, e1, hr]
    | true =>
      rw [if_neg (by decide)]
      have e7 := V.1 i hi 7 (by omega) (by omega)
      have e2 : gI h (5 + 9 * i) 2 = α.1 i 2 := V.1 i hi 2 (by omega) (by omega)
      by_cases h7 : 0 < α.1 i 7
      · rw [if_pos h7]
        rw [← e7] at h7
        refine ⟨.inr 1, _, fun Q => ?_, Or.inr ⟨1, by omega, rfl, rfl⟩, V.ex S (Ex.hN h kc_IllegalStateException 0 6)⟩
        simp only [↓e_S_tune_0, ↓e_S_tune_1, ↓e_S_tune_2, ↓e_S_tune_5, ↓e_S_tune_6, ↓e_S_tune_9, ↓e_S_tune_12, ↓e_S_tune_22, ↓e_S_tune_23, ↓e_S_tune_24, ↓e_S_tune_27, ↓e_S_tune_28, ↓e_S_tune_31, ↓e_S_tune_34, ↓e_S_tune_35, ↓e_S_tune_36, ↓e_S_tune_39, ↓e_S_tune_41, ↓e_S_tune_42, ↓e_S_tune_45, ↓e_S_tune_46, ↓e_S_tune_47, ↓e_S_tune_48, ↓e_S_tune_51, ↓e_S_tune_53, not_true_eq_false, not_false_eq_true, one0, true_or, or_true, eq_self, bI_z, bI_nz, bI_o, b_ft, bI_1, bI_0, ↓kC_l, ↓kC_r, Option.toList_some, Option.toList_none, List.cons_append, List.nil_append, s1_0, s1_1i, s1_1r, s1_1w, s1_1n, s1_s, s2_0, s2_1i, s2_1r, s2_1w, s2_1n, s2_s, gI_sI, gI_sR, gI_sL, gI_sD, gR_sI, gR_sR, gR_sL, gR_sD, gL_sI, gL_sR, gL_sL, gL_sD, gD_sI, gD_sR, gD_sL, gD_sD, isK_sI, isK_sR, isK_sL, isK_sD, inL_sI, inL_sR, inL_sL, inL_sD, nx_sI, nx_sR, nx_sL, nx_sD, kd_sI, kd_sR, kd_sL, kd_sD, ln_sI, ln_sR, ln_sL, ln_sD, ↓reduceIte, c8_n, c8_1, c8_2, c8_3, c8_4, Nat.reduceAdd, k_s S, k_land S, k_nodes S, k_hear S, k_routes S, k_traffic S, k_market S, g_cnt S, r_land S, r_routes S, r_traffic S, r_market S, r_nodes S, r_hear S, r_rland S, r_tland S, r_troutes S, q_checkNode _ S hi, q_isReach, e1, q_checkSilent _ S hi8 hr, h7]
      · rw [if_neg h7]
        rw [← e7] at h7
        obtain ⟨u, u1, u2, u3⟩ := ca_adj V S hi y hz
        refine ⟨.inl (some (.inl (α.1 i 2))), u, fun Q => ?_, Or.inl ⟨rfl, rfl⟩, u2⟩
        simp only [↓e_S_tune_0, ↓e_S_tune_1, ↓e_S_tune_2, ↓e_S_tune_5, ↓e_S_tune_6, ↓e_S_tune_9, ↓e_S_tune_12, ↓e_S_tune_22, ↓e_S_tune_23, ↓e_S_tune_24, ↓e_S_tune_27, ↓e_S_tune_28, ↓e_S_tune_31, ↓e_S_tune_34, ↓e_S_tune_35, ↓e_S_tune_36, ↓e_S_tune_39, ↓e_S_tune_41, ↓e_S_tune_42, ↓e_S_tune_45, ↓e_S_tune_46, ↓e_S_tune_47, ↓e_S_tune_48, ↓e_S_tune_51, ↓e_S_tune_53, not_true_eq_false, not_false_eq_true, one0, true_or, or_true, eq_self, bI_z, bI_nz, bI_o, b_ft, bI_1, bI_0, ↓kC_l, ↓kC_r, Option.toList_some, Option.toList_none, List.cons_append, List.nil_append, s1_0, s1_1i, s1_1r, s1_1w, s1_1n, s1_s, s2_0, s2_1i, s2_1r, s2_1w, s2_1n, s2_s, gI_sI, gI_sR, gI_sL, gI_sD, gR_sI, gR_sR, gR_sL, gR_sD, gL_sI, gL_sR, gL_sL, gL_sD, gD_sI, gD_sR, gD_sL, gD_sD, isK_sI, isK_sR, isK_sL, isK_sD, inL_sI, inL_sR, inL_sL, inL_sD, nx_sI, nx_sR, nx_sL, nx_sD, kd_sI, kd_sR, kd_sL, kd_sD, ln_sI, ln_sR, ln_sL, ln_sD, ↓reduceIte, c8_n, c8_1, c8_2, c8_3, c8_4, Nat.reduceAdd, k_s S, k_land S, k_nodes S, k_hear S, k_routes S, k_traffic S, k_market S, g_cnt S, r_land S, r_routes S, r_traffic S, r_market S, r_nodes S, r_hear S, r_rland S, r_tland S, r_troutes S, l_nodes S hi8, l_hear S hi8, r_node S hi8, r_queue S hi8, r_set S hi8, r_frames S hi8, r_bits S hi8, k_node S hi8, k_queue S hi8, k_frames S hi8, k_set S hi8, k_bits S hi8, ii_nat (lt31 hi8), q_checkNode _ S hi, q_isReach, e1, q_checkSilent _ S hi8 hr, h7, e2, u1, k_s u3, k_land u3, k_nodes u3, k_hear u3, k_routes u3, k_traffic u3, k_market u3, g_cnt u3, r_land u3, r_routes u3, r_traffic u3, r_market u3, r_nodes u3, r_hear u3, r_rland u3, r_tland u3, r_troutes u3]
theorem vx_send (A : AI n h) (V : CA n h α) (hr : okR cM sM h 1 6 = true) (x y z : Int32) : ∃ rs h', (∀ Q, WP Gm j_S_send 0 [some (.inr (.inl (some 1))), some (.inl x), some (.inl y), some (.inl z), none, none] [] h Q = Q rs h') ∧ vr9 mA9 rs (sen9 n α x y z) ∧ CA n h' (sen9 n α x y z).2.2 := by
  have S := A.1
  have hn := n8 S
  unfold sen9
  cases hb : isN n x with
  | false =>
    rw [Bool.false_and, if_pos rfl]
    refine ⟨.inr 2, _, fun Q => ?_, Or.inr ⟨2, by omega, rfl, rfl⟩, V.ex S (Ex.hN h kc_IndexOutOfBoundsException 0 6)⟩
    simp only [↓e_S_send_0, ↓e_S_send_1, ↓e_S_send_2, ↓e_S_send_5, ↓e_S_send_6, ↓e_S_send_7, ↓e_S_send_10, ↓e_S_send_11, ↓e_S_send_12, ↓e_S_send_15, ↓e_S_send_16, ↓e_S_send_17, ↓e_S_send_18, ↓e_S_send_21, ↓e_S_send_24, ↓e_S_send_34, ↓e_S_send_35, ↓e_S_send_38, ↓e_S_send_41, ↓e_S_send_42, ↓e_S_send_43, ↓e_S_send_45, ↓e_S_send_47, ↓e_S_send_50, ↓e_S_send_52, ↓e_S_send_54, ↓e_S_send_57, ↓e_S_send_58, ↓e_S_send_59, ↓e_S_send_60, ↓e_S_send_62, ↓e_S_send_63, ↓e_S_send_66, ↓e_S_send_69, ↓e_S_send_79, ↓e_S_send_81, ↓e_S_send_82, ↓e_S_send_85, ↓e_S_send_86, ↓e_S_send_87, ↓e_S_send_90, ↓e_S_send_92, not_true_eq_false, not_false_eq_true, one0, true_or, or_true, eq_self, bI_z, bI_nz, bI_o, b_ft, bI_1, bI_0, ↓kC_l, ↓kC_r, Option.toList_some, Option.toList_none, List.cons_append, List.nil_append, s1_0, s1_1i, s1_1r, s1_1w, s1_1n, s1_s, s2_0, s2_1i, s2_1r, s2_1w, s2_1n, s2_s, gI_sI, gI_sR, gI_sL, gI_sD, gR_sI, gR_sR, gR_sL, gR_sD, gL_sI, gL_sR, gL_sL, gL_sD, gD_sI, gD_sR, gD_sL, gD_sD, isK_sI, isK_sR, isK_sL, isK_sD, inL_sI, inL_sR, inL_sL, inL_sD, nx_sI, nx_sR, nx_sL, nx_sD, kd_sI, kd_sR, kd_sL, kd_sD, ln_sI, ln_sR, ln_sL, ln_sD, ↓reduceIte, c8_n, c8_1, c8_2, c8_3, c8_4, Nat.reduceAdd, k_s S, k_land S, k_nodes S, k_hear S, k_routes S, k_traffic S, k_market S, g_cnt S, r_land S, r_routes S, r_traffic S, r_market S, r_nodes S, r_hear S, r_rland S, r_tland S, r_troutes S, c_no9 S hr hb]
  | true =>
    obtain ⟨i, hi, rfl⟩ := isN_ex hn hb
    have hi8 : i < 8 := by omega
    cases hb2 : isN n y with
    | false =>
      rw [Bool.and_false, if_pos rfl]
      refine ⟨.inr 2, _, fun Q => ?_, Or.inr ⟨2, by omega, rfl, rfl⟩, V.ex S (Ex.hN h kc_IndexOutOfBoundsException 0 6)⟩
      simp only [↓e_S_send_0, ↓e_S_send_1, ↓e_S_send_2, ↓e_S_send_5, ↓e_S_send_6, ↓e_S_send_7, ↓e_S_send_10, ↓e_S_send_11, ↓e_S_send_12, ↓e_S_send_15, ↓e_S_send_16, ↓e_S_send_17, ↓e_S_send_18, ↓e_S_send_21, ↓e_S_send_24, ↓e_S_send_34, ↓e_S_send_35, ↓e_S_send_38, ↓e_S_send_41, ↓e_S_send_42, ↓e_S_send_43, ↓e_S_send_45, ↓e_S_send_47, ↓e_S_send_50, ↓e_S_send_52, ↓e_S_send_54, ↓e_S_send_57, ↓e_S_send_58, ↓e_S_send_59, ↓e_S_send_60, ↓e_S_send_62, ↓e_S_send_63, ↓e_S_send_66, ↓e_S_send_69, ↓e_S_send_79, ↓e_S_send_81, ↓e_S_send_82, ↓e_S_send_85, ↓e_S_send_86, ↓e_S_send_87, ↓e_S_send_90, ↓e_S_send_92, not_true_eq_false, not_false_eq_true, one0, true_or, or_true, eq_self, bI_z, bI_nz, bI_o, b_ft, bI_1, bI_0, ↓kC_l, ↓kC_r, Option.toList_some, Option.toList_none, List.cons_append, List.nil_append, s1_0, s1_1i, s1_1r, s1_1w, s1_1n, s1_s, s2_0, s2_1i, s2_1r, s2_1w, s2_1n, s2_s, gI_sI, gI_sR, gI_sL, gI_sD, gR_sI, gR_sR, gR_sL, gR_sD, gL_sI, gL_sR, gL_sL, gL_sD, gD_sI, gD_sR, gD_sL, gD_sD, isK_sI, isK_sR, isK_sL, isK_sD, inL_sI, inL_sR, inL_sL, inL_sD, nx_sI, nx_sR, nx_sL, nx_sD, kd_sI, kd_sR, kd_sL, kd_sD, ln_sI, ln_sR, ln_sL, ln_sD, ↓reduceIte, c8_n, c8_1, c8_2, c8_3, c8_4, Nat.reduceAdd, k_s S, k_land S, k_nodes S, k_hear S, k_routes S, k_traffic S, k_market S, g_cnt S, r_land S, r_routes S, r_traffic S, r_market S, r_nodes S, r_hear S, r_rland S, r_tland S, r_troutes S, q_checkNode _ S hi, c_no9 S hr hb2]
    | true =>
      obtain ⟨j, hj, rfl⟩ := isN_ex hn hb2
      rw [if_neg (by decide), tn_ii (show i < 2147483648 by omega)]
      have eij : (ii i = ii j) = (i = j) := ii_inj (by omega) (by omega)
      by_cases hij : i = j
      · rw [decide_eq_true (by rw [hij]), if_pos (by rfl)]
        refine ⟨.inr 0, _, fun Q => ?_, Or.inr ⟨0, by omega, rfl, rfl⟩, V.ex S (Ex.hN h kc_IllegalArgumentException 0 6)⟩
        subst hij
        simp only [↓e_S_send_0, ↓e_S_send_1, ↓e_S_send_2, ↓e_S_send_5, ↓e_S_send_6, ↓e_S_send_7, ↓e_S_send_10, ↓e_S_send_11, ↓e_S_send_12, ↓e_S_send_15, ↓e_S_send_16, ↓e_S_send_17, ↓e_S_send_18, ↓e_S_send_21, ↓e_S_send_24, ↓e_S_send_34, ↓e_S_send_35, ↓e_S_send_38, ↓e_S_send_41, ↓e_S_send_42, ↓e_S_send_43, ↓e_S_send_45, ↓e_S_send_47, ↓e_S_send_50, ↓e_S_send_52, ↓e_S_send_54, ↓e_S_send_57, ↓e_S_send_58, ↓e_S_send_59, ↓e_S_send_60, ↓e_S_send_62, ↓e_S_send_63, ↓e_S_send_66, ↓e_S_send_69, ↓e_S_send_79, ↓e_S_send_81, ↓e_S_send_82, ↓e_S_send_85, ↓e_S_send_86, ↓e_S_send_87, ↓e_S_send_90, ↓e_S_send_92, not_true_eq_false, not_false_eq_true, one0, true_or, or_true, eq_self, bI_z, bI_nz, bI_o, b_ft, bI_1, bI_0, ↓kC_l, ↓kC_r, Option.toList_some, Option.toList_none, List.cons_append, List.nil_append, s1_0, s1_1i, s1_1r, s1_1w, s1_1n, s1_s, s2_0, s2_1i, s2_1r, s2_1w, s2_1n, s2_s, gI_sI, gI_sR, gI_sL, gI_sD, gR_sI, gR_sR, gR_sL, gR_sD, gL_sI, gL_sR, gL_sL, gL_sD, gD_sI, gD_sR, gD_sL, gD_sD, isK_sI, isK_sR, isK_sL, isK_sD, inL_sI, inL_sR, inL_sL, inL_sD, nx_sI, nx_sR, nx_sL, nx_sD, kd_sI, kd_sR, kd_sL, kd_sD, ln_sI, ln_sR, ln_sL, ln_sD, ↓reduceIte, c8_n, c8_1, c8_2, c8_3, c8_4, Nat.reduceAdd, k_s S, k_land S, k_nodes S, k_hear S, k_routes S, k_traffic S, k_market S, g_cnt S, r_land S, r_routes S, r_traffic S, r_market S, r_nodes S, r_hear S, r_rland S, r_tland S, r_troutes S, q_checkNode _ S hi, hr]
      · rw [decide_eq_false (show ¬ ii i = ii j by rw [eij]; exact hij)]
        have hne : (ii i = ii j) = False := by rw [eij]; exact eq_false hij
        cases e1 : (decide (1 ≤ z) && decide (z ≤ 3)) with
        | false =>
          rw [if_pos (by rfl)]
          refine ⟨.inr 0, _, fun Q => ?_, Or.inr ⟨0, by omega, rfl, rfl⟩, V.ex S (Ex.hN h kc_IllegalArgumentException 0 6)⟩
          simp only [↓e_S_send_0, ↓e_S_send_1, ↓e_S_send_2, ↓e_S_send_5, ↓e_S_send_6, ↓e_S_send_7, ↓e_S_send_10, ↓e_S_send_11, ↓e_S_send_12, ↓e_S_send_15, ↓e_S_send_16, ↓e_S_send_17, ↓e_S_send_18, ↓e_S_send_21, ↓e_S_send_24, ↓e_S_send_34, ↓e_S_send_35, ↓e_S_send_38, ↓e_S_send_41, ↓e_S_send_42, ↓e_S_send_43, ↓e_S_send_45, ↓e_S_send_47, ↓e_S_send_50, ↓e_S_send_52, ↓e_S_send_54, ↓e_S_send_57, ↓e_S_send_58, ↓e_S_send_59, ↓e_S_send_60, ↓e_S_send_62, ↓e_S_send_63, ↓e_S_send_66, ↓e_S_send_69, ↓e_S_send_79, ↓e_S_send_81, ↓e_S_send_82, ↓e_S_send_85, ↓e_S_send_86, ↓e_S_send_87, ↓e_S_send_90, ↓e_S_send_92, not_true_eq_false, not_false_eq_true, one0, true_or, or_true, eq_self, bI_z, bI_nz, bI_o, b_ft, bI_1, bI_0, ↓kC_l, ↓kC_r, Option.toList_some, Option.toList_none, List.cons_append, List.nil_append, s1_0, s1_1i, s1_1r, s1_1w, s1_1n, s1_s, s2_0, s2_1i, s2_1r, s2_1w, s2_1n, s2_s, gI_sI, gI_sR, gI_sL, gI_sD, gR_sI, gR_sR, gR_sL, gR_sD, gL_sI, gL_sR, gL_sL, gL_sD, gD_sI, gD_sR, gD_sL, gD_sD, isK_sI, isK_sR, isK_sL, isK_sD, inL_sI, inL_sR, inL_sL, inL_sD, nx_sI, nx_sR, nx_sL, nx_sD, kd_sI, kd_sR, kd_sL, kd_sD, ln_sI, ln_sR, ln_sL, ln_sD, ↓reduceIte, c8_n, c8_1, c8_2, c8_3, c8_4, Nat.reduceAdd, k_s S, k_land S, k_nodes S, k_hear S, k_routes S, k_traffic S, k_market S, g_cnt S, r_land S, r_routes S, r_traffic S, r_market S, r_nodes S, r_hear S, r_rland S, r_tland S, r_troutes S, q_checkNode _ S hi, q_checkNode _ S hj, hne, q_isWithin, e1, hr]
        | true =>
          rw [if_neg (by decide)]
          have e14 : gI h (5 + 9 * i) 14 = α.1 i 14 := V.1 i hi 14 (by omega) (by omega)
          rcases ca_push V S hi (ii i) (ii j) z (α.1 i 14) 0 with ⟨h4, r1⟩ | ⟨h4, u, r1, r2, r3⟩
          · rw [if_pos h4]
            refine ⟨.inr 1, _, fun Q => ?_, Or.inr ⟨1, by omega, rfl, rfl⟩, V.ex S (Ex.hN h kc_IllegalStateException 0 6)⟩
            simp only [↓e_S_send_0, ↓e_S_send_1, ↓e_S_send_2, ↓e_S_send_5, ↓e_S_send_6, ↓e_S_send_7, ↓e_S_send_10, ↓e_S_send_11, ↓e_S_send_12, ↓e_S_send_15, ↓e_S_send_16, ↓e_S_send_17, ↓e_S_send_18, ↓e_S_send_21, ↓e_S_send_24, ↓e_S_send_34, ↓e_S_send_35, ↓e_S_send_38, ↓e_S_send_41, ↓e_S_send_42, ↓e_S_send_43, ↓e_S_send_45, ↓e_S_send_47, ↓e_S_send_50, ↓e_S_send_52, ↓e_S_send_54, ↓e_S_send_57, ↓e_S_send_58, ↓e_S_send_59, ↓e_S_send_60, ↓e_S_send_62, ↓e_S_send_63, ↓e_S_send_66, ↓e_S_send_69, ↓e_S_send_79, ↓e_S_send_81, ↓e_S_send_82, ↓e_S_send_85, ↓e_S_send_86, ↓e_S_send_87, ↓e_S_send_90, ↓e_S_send_92, not_true_eq_false, not_false_eq_true, one0, true_or, or_true, eq_self, bI_z, bI_nz, bI_o, b_ft, bI_1, bI_0, ↓kC_l, ↓kC_r, Option.toList_some, Option.toList_none, List.cons_append, List.nil_append, s1_0, s1_1i, s1_1r, s1_1w, s1_1n, s1_s, s2_0, s2_1i, s2_1r, s2_1w, s2_1n, s2_s, gI_sI, gI_sR, gI_sL, gI_sD, gR_sI, gR_sR, gR_sL, gR_sD, gL_sI, gL_sR, gL_sL, gL_sD, gD_sI, gD_sR, gD_sL, gD_sD, isK_sI, isK_sR, isK_sL, isK_sD, inL_sI, inL_sR, inL_sL, inL_sD, nx_sI, nx_sR, nx_sL, nx_sD, kd_sI, kd_sR, kd_sL, kd_sD, ln_sI, ln_sR, ln_sL, ln_sD, ↓reduceIte, c8_n, c8_1, c8_2, c8_3, c8_4, Nat.reduceAdd, k_s S, k_land S, k_nodes S, k_hear S, k_routes S, k_traffic S, k_market S, g_cnt S, r_land S, r_routes S, r_traffic S, r_market S, r_nodes S, r_hear S, r_rland S, r_tland S, r_troutes S, l_nodes S hi8, l_hear S hi8, r_node S hi8, r_queue S hi8, r_set S hi8, r_frames S hi8, r_bits S hi8, k_node S hi8, k_queue S hi8, k_frames S hi8, k_set S hi8, k_bits S hi8, ii_nat (lt31 hi8), q_checkNode _ S hi, q_checkNode _ S hj, hne, q_isWithin, e1, Bool.true_eq_false, e14, r1, hr]
          · rw [if_neg (by omega)]
            have V2 := r3 (fr9 (ii i) (ii j) z (α.1 i 14)) rfl rfl rfl rfl rfl
            have u14 : gI u (5 + 9 * i) 14 = α.1 i 14 := V2.1 i hi 14 (by omega) (by omega)
            refine ⟨.inl (some (.inl (α.1 i 14))), sI u (5 + 9 * i) 14 (α.1 i 14 + 1), fun Q => ?_, Or.inl ⟨rfl, rfl⟩, V2.set hn hi (by omega) _ (fun w => by omega)⟩
            simp only [↓e_S_send_0, ↓e_S_send_1, ↓e_S_send_2, ↓e_S_send_5, ↓e_S_send_6, ↓e_S_send_7, ↓e_S_send_10, ↓e_S_send_11, ↓e_S_send_12, ↓e_S_send_15, ↓e_S_send_16, ↓e_S_send_17, ↓e_S_send_18, ↓e_S_send_21, ↓e_S_send_24, ↓e_S_send_34, ↓e_S_send_35, ↓e_S_send_38, ↓e_S_send_41, ↓e_S_send_42, ↓e_S_send_43, ↓e_S_send_45, ↓e_S_send_47, ↓e_S_send_50, ↓e_S_send_52, ↓e_S_send_54, ↓e_S_send_57, ↓e_S_send_58, ↓e_S_send_59, ↓e_S_send_60, ↓e_S_send_62, ↓e_S_send_63, ↓e_S_send_66, ↓e_S_send_69, ↓e_S_send_79, ↓e_S_send_81, ↓e_S_send_82, ↓e_S_send_85, ↓e_S_send_86, ↓e_S_send_87, ↓e_S_send_90, ↓e_S_send_92, not_true_eq_false, not_false_eq_true, one0, true_or, or_true, eq_self, bI_z, bI_nz, bI_o, b_ft, bI_1, bI_0, ↓kC_l, ↓kC_r, Option.toList_some, Option.toList_none, List.cons_append, List.nil_append, s1_0, s1_1i, s1_1r, s1_1w, s1_1n, s1_s, s2_0, s2_1i, s2_1r, s2_1w, s2_1n, s2_s, gI_sI, gI_sR, gI_sL, gI_sD, gR_sI, gR_sR, gR_sL, gR_sD, gL_sI, gL_sR, gL_sL, gL_sD, gD_sI, gD_sR, gD_sL, gD_sD, isK_sI, isK_sR, isK_sL, isK_sD, inL_sI, inL_sR, inL_sL, inL_sD, nx_sI, nx_sR, nx_sL, nx_sD, kd_sI, kd_sR, kd_sL, kd_sD, ln_sI, ln_sR, ln_sL, ln_sD, ↓reduceIte, c8_n, c8_1, c8_2, c8_3, c8_4, Nat.reduceAdd, k_s S, k_land S, k_nodes S, k_hear S, k_routes S, k_traffic S, k_market S, g_cnt S, r_land S, r_routes S, r_traffic S, r_market S, r_nodes S, r_hear S, r_rland S, r_tland S, r_troutes S, l_nodes S hi8, l_hear S hi8, r_node S hi8, r_queue S hi8, r_set S hi8, r_frames S hi8, r_bits S hi8, k_node S hi8, k_queue S hi8, k_frames S hi8, k_set S hi8, k_bits S hi8, ii_nat (lt31 hi8), q_checkNode _ S hi, q_checkNode _ S hj, hne, q_isWithin, e1, Bool.true_eq_false, e14, r1, l_nodes r2 hi8, l_hear r2 hi8, r_node r2 hi8, r_queue r2 hi8, r_set r2 hi8, r_frames r2 hi8, r_bits r2 hi8, k_node r2 hi8, k_queue r2 hi8, k_frames r2 hi8, k_set r2 hi8, k_bits r2 hi8, ii_nat (lt31 hi8), u14]
theorem vx_pass (L : LV n B T h) (hB : B ≤ 2000) (V : CA n h α) (hr : okR cM sM h 1 6 = true) (x : Int32) (W : ∀ k, B + k ≤ 2000 → VS9 n (sl9 n k α)) : ∃ rs h', (∀ Q, WP Gm j_S_pass 0 [some (.inr (.inl (some 1))), some (.inl x), none] [] h Q = Q rs h') ∧ vr9 mB9 rs (pas9 n B α x) ∧ CA n h' (pas9 n B α x).2.2 := by
  have A := L.1.1
  have S := A.1
  have hn := n8 S
  unfold pas9
  cases e1 : (decide (1 ≤ x) && decide (x ≤ 200)) with
  | false =>
    rw [if_pos rfl]
    refine ⟨.inr 0, _, fun Q => ?_, Or.inr ⟨0, by omega, rfl, rfl⟩, V.ex S (Ex.hN h kc_IllegalArgumentException 0 6)⟩
    simp only [↓e_S_pass_0, ↓e_S_pass_1, ↓e_S_pass_2, ↓e_S_pass_5, ↓e_S_pass_8, ↓e_S_pass_11, ↓e_S_pass_21, ↓e_S_pass_22, ↓e_S_pass_25, ↓e_S_pass_28, ↓e_S_pass_29, ↓e_S_pass_30, ↓e_S_pass_33, ↓e_S_pass_36, ↓e_S_pass_46, ↓e_S_pass_47, ↓e_S_pass_48, ↓e_S_pass_49, ↓e_S_pass_50, ↓e_S_pass_53, ↓e_S_pass_54, ↓e_S_pass_57, ↓e_S_pass_60, ↓e_S_pass_63, ↓e_S_pass_66, ↓e_S_pass_67, ↓e_S_pass_70, ↓e_S_pass_73, not_true_eq_false, not_false_eq_true, one0, true_or, or_true, eq_self, bI_z, bI_nz, bI_o, b_ft, bI_1, bI_0, ↓kC_l, ↓kC_r, Option.toList_some, Option.toList_none, List.cons_append, List.nil_append, s1_0, s1_1i, s1_1r, s1_1w, s1_1n, s1_s, s2_0, s2_1i, s2_1r, s2_1w, s2_1n, s2_s, gI_sI, gI_sR, gI_sL, gI_sD, gR_sI, gR_sR, gR_sL, gR_sD, gL_sI, gL_sR, gL_sL, gL_sD, gD_sI, gD_sR, gD_sL, gD_sD, isK_sI, isK_sR, isK_sL, isK_sD, inL_sI, inL_sR, inL_sL, inL_sD, nx_sI, nx_sR, nx_sL, nx_sD, kd_sI, kd_sR, kd_sL, kd_sD, ln_sI, ln_sR, ln_sL, ln_sD, ↓reduceIte, c8_n, c8_1, c8_2, c8_3, c8_4, Nat.reduceAdd, k_s S, k_land S, k_nodes S, k_hear S, k_routes S, k_traffic S, k_market S, g_cnt S, r_land S, r_routes S, r_traffic S, r_market S, r_nodes S, r_hear S, r_rland S, r_tland S, r_troutes S, q_isWithin, e1, hr]
  | true =>
    rw [if_neg (by decide)]
    obtain ⟨t, a1, a2, rfl⟩ := i32_cases1 (a := 1) (b := 200) (by omega) e1 (by omega)
    rw [tn_ii (show t < 2147483648 by omega)]
    have sl := L.2.2.2
    have eS : ii B + ii t = ii (B + t) := ii_add B t
    by_cases hL : B + t ≤ 2000
    · rw [if_pos hL]
      have e2 : (ii (B + t) ≤ (2000 : Int32)) = True := by rw [show (2000 : Int32) = ii 2000 from rfl, ii_le (by omega) (by omega)]; exact eq_true (by omega)
      obtain ⟨r, h', r1, -, B2, -, -, ⟨⟨A2, -⟩, -, -, sl2⟩, -⟩ := s_pass L a1 a2 hL
      obtain ⟨g, q1, A', V', sg⟩ := loopR (fun Q k (g : Hp) => WP Gm j_S_pass 48 [some (.inr (.inl (some 1))), some (.inl (ii t)), some (.inl (ii k))] [] g Q)
        (fun k g => AI n g ∧ CA n g (sl9 n k α) ∧ gI g 114 2 = ii (B + k)) t
        (fun k g hk hI => by
          obtain ⟨Ag, Vg, sg⟩ := hI
          obtain ⟨g', p1, p2, p3⟩ := ca_goBy Ag Vg (W k (by omega))
          obtain ⟨g2, p4, -, -, -, p5, -⟩ := q_goBy Ag
          obtain ⟨-, rfl⟩ := det p1 p4
          refine ⟨g', fun Q => ?_, p2, p3, by rw [p5, sg, ii_succ, Nat.add_assoc]⟩
          rw [e_S_pass_48]
          simp only [↓e_S_pass_0, ↓e_S_pass_1, ↓e_S_pass_2, ↓e_S_pass_5, ↓e_S_pass_8, ↓e_S_pass_11, ↓e_S_pass_21, ↓e_S_pass_22, ↓e_S_pass_25, ↓e_S_pass_28, ↓e_S_pass_29, ↓e_S_pass_30, ↓e_S_pass_33, ↓e_S_pass_36, ↓e_S_pass_46, ↓e_S_pass_47, ↓e_S_pass_49, ↓e_S_pass_50, ↓e_S_pass_53, ↓e_S_pass_54, ↓e_S_pass_57, ↓e_S_pass_60, ↓e_S_pass_63, ↓e_S_pass_66, ↓e_S_pass_67, ↓e_S_pass_70, ↓e_S_pass_73, not_true_eq_false, not_false_eq_true, one0, true_or, or_true, eq_self, bI_z, bI_nz, bI_o, b_ft, bI_1, bI_0, ↓kC_l, ↓kC_r, Option.toList_some, Option.toList_none, List.cons_append, List.nil_append, s1_0, s1_1i, s1_1r, s1_1w, s1_1n, s1_s, s2_0, s2_1i, s2_1r, s2_1w, s2_1n, s2_s, gI_sI, gI_sR, gI_sL, gI_sD, gR_sI, gR_sR, gR_sL, gR_sD, gL_sI, gL_sR, gL_sL, gL_sD, gD_sI, gD_sR, gD_sL, gD_sD, isK_sI, isK_sR, isK_sL, isK_sD, inL_sI, inL_sR, inL_sL, inL_sD, nx_sI, nx_sR, nx_sL, nx_sD, kd_sI, kd_sR, kd_sL, kd_sD, ln_sI, ln_sR, ln_sL, ln_sD, ↓reduceIte, c8_n, c8_1, c8_2, c8_3, c8_4, Nat.reduceAdd, k_s Ag.1, k_land Ag.1, k_nodes Ag.1, k_hear Ag.1, k_routes Ag.1, k_traffic Ag.1, k_market Ag.1, g_cnt Ag.1, r_land Ag.1, r_routes Ag.1, r_traffic Ag.1, r_market Ag.1, r_nodes Ag.1, r_hear Ag.1, r_rland Ag.1, r_tland Ag.1, r_troutes Ag.1, lle_f (show t < 2147483648 by omega) hk, p1, ii_succ]) t 0 h (by omega) ⟨A, V, sl⟩
      refine ⟨.inl (some (.inl (ii (B + t)))), g, fun Q => ?_, Or.inl ⟨rfl, rfl⟩, V'⟩
      simp only [↓e_S_pass_0, ↓e_S_pass_1, ↓e_S_pass_2, ↓e_S_pass_5, ↓e_S_pass_8, ↓e_S_pass_11, ↓e_S_pass_21, ↓e_S_pass_22, ↓e_S_pass_25, ↓e_S_pass_28, ↓e_S_pass_29, ↓e_S_pass_30, ↓e_S_pass_33, ↓e_S_pass_36, ↓e_S_pass_46, ↓e_S_pass_47, ↓e_S_pass_49, ↓e_S_pass_50, ↓e_S_pass_53, ↓e_S_pass_54, ↓e_S_pass_57, ↓e_S_pass_60, ↓e_S_pass_63, ↓e_S_pass_66, ↓e_S_pass_67, ↓e_S_pass_70, ↓e_S_pass_73, not_true_eq_false, not_false_eq_true, one0, true_or, or_true, eq_self, bI_z, bI_nz, bI_o, b_ft, bI_1, bI_0, ↓kC_l, ↓kC_r, Option.toList_some, Option.toList_none, List.cons_append, List.nil_append, s1_0, s1_1i, s1_1r, s1_1w, s1_1n, s1_s, s2_0, s2_1i, s2_1r, s2_1w, s2_1n, s2_s, gI_sI, gI_sR, gI_sL, gI_sD, gR_sI, gR_sR, gR_sL, gR_sD, gL_sI, gL_sR, gL_sL, gL_sD, gD_sI, gD_sR, gD_sL, gD_sD, isK_sI, isK_sR, isK_sL, isK_sD, inL_sI, inL_sR, inL_sL, inL_sD, nx_sI, nx_sR, nx_sL, nx_sD, kd_sI, kd_sR, kd_sL, kd_sD, ln_sI, ln_sR, ln_sL, ln_sD, ↓reduceIte, c8_n, c8_1, c8_2, c8_3, c8_4, Nat.reduceAdd, k_s S, k_land S, k_nodes S, k_hear S, k_routes S, k_traffic S, k_market S, g_cnt S, r_land S, r_routes S, r_traffic S, r_market S, r_nodes S, r_hear S, r_rland S, r_tland S, r_troutes S, q_isWithin, e1, Bool.true_eq_false, sl, eS, e2]
      refine (q1 Q).trans ?_
      rw [e_S_pass_48]
      simp only [↓e_S_pass_0, ↓e_S_pass_1, ↓e_S_pass_2, ↓e_S_pass_5, ↓e_S_pass_8, ↓e_S_pass_11, ↓e_S_pass_21, ↓e_S_pass_22, ↓e_S_pass_25, ↓e_S_pass_28, ↓e_S_pass_29, ↓e_S_pass_30, ↓e_S_pass_33, ↓e_S_pass_36, ↓e_S_pass_46, ↓e_S_pass_47, ↓e_S_pass_49, ↓e_S_pass_50, ↓e_S_pass_53, ↓e_S_pass_54, ↓e_S_pass_57, ↓e_S_pass_60, ↓e_S_pass_63, ↓e_S_pass_66, ↓e_S_pass_67, ↓e_S_pass_70, ↓e_S_pass_73, not_true_eq_false, not_false_eq_true, one0, true_or, or_true, eq_self, bI_z, bI_nz, bI_o, b_ft, bI_1, bI_0, ↓kC_l, ↓kC_r, Option.toList_some, Option.toList_none, List.cons_append, List.nil_append, s1_0, s1_1i, s1_1r, s1_1w, s1_1n, s1_s, s2_0, s2_1i, s2_1r, s2_1w, s2_1n, s2_s, gI_sI, gI_sR, gI_sL, gI_sD, gR_sI, gR_sR, gR_sL, gR_sD, gL_sI, gL_sR, gL_sL, gL_sD, gD_sI, gD_sR, gD_sL, gD_sD, isK_sI, isK_sR, isK_sL, isK_sD, inL_sI, inL_sR, inL_sL, inL_sD, nx_sI, nx_sR, nx_sL, nx_sD, kd_sI, kd_sR, kd_sL, kd_sD, ln_sI, ln_sR, ln_sL, ln_sD, ↓reduceIte, c8_n, c8_1, c8_2, c8_3, c8_4, Nat.reduceAdd, k_s A'.1, k_land A'.1, k_nodes A'.1, k_hear A'.1, k_routes A'.1, k_traffic A'.1, k_market A'.1, g_cnt A'.1, r_land A'.1, r_routes A'.1, r_traffic A'.1, r_market A'.1, r_nodes A'.1, r_hear A'.1, r_rland A'.1, r_tland A'.1, r_troutes A'.1, lle_t (show t < 2147483648 by omega), sg]
    · rw [if_neg hL]
      have eL : (ii (B + t) ≤ (2000 : Int32)) = False := by rw [show (2000 : Int32) = ii 2000 from rfl, ii_le (by omega) (by omega)]; exact eq_false hL
      refine ⟨.inr 1, _, fun Q => ?_, Or.inr ⟨1, by omega, rfl, rfl⟩, V.ex S (Ex.hN h kc_IllegalStateException 0 6)⟩
      simp only [↓e_S_pass_0, ↓e_S_pass_1, ↓e_S_pass_2, ↓e_S_pass_5, ↓e_S_pass_8, ↓e_S_pass_11, ↓e_S_pass_21, ↓e_S_pass_22, ↓e_S_pass_25, ↓e_S_pass_28, ↓e_S_pass_29, ↓e_S_pass_30, ↓e_S_pass_33, ↓e_S_pass_36, ↓e_S_pass_46, ↓e_S_pass_47, ↓e_S_pass_48, ↓e_S_pass_49, ↓e_S_pass_50, ↓e_S_pass_53, ↓e_S_pass_54, ↓e_S_pass_57, ↓e_S_pass_60, ↓e_S_pass_63, ↓e_S_pass_66, ↓e_S_pass_67, ↓e_S_pass_70, ↓e_S_pass_73, not_true_eq_false, not_false_eq_true, one0, true_or, or_true, eq_self, bI_z, bI_nz, bI_o, b_ft, bI_1, bI_0, ↓kC_l, ↓kC_r, Option.toList_some, Option.toList_none, List.cons_append, List.nil_append, s1_0, s1_1i, s1_1r, s1_1w, s1_1n, s1_s, s2_0, s2_1i, s2_1r, s2_1w, s2_1n, s2_s, gI_sI, gI_sR, gI_sL, gI_sD, gR_sI, gR_sR, gR_sL, gR_sD, gL_sI, gL_sR, gL_sL, gL_sD, gD_sI, gD_sR, gD_sL, gD_sD, isK_sI, isK_sR, isK_sL, isK_sD, inL_sI, inL_sR, inL_sL, inL_sD, nx_sI, nx_sR, nx_sL, nx_sD, kd_sI, kd_sR, kd_sL, kd_sD, ln_sI, ln_sR, ln_sL, ln_sD, ↓reduceIte, c8_n, c8_1, c8_2, c8_3, c8_4, Nat.reduceAdd, k_s S, k_land S, k_nodes S, k_hear S, k_routes S, k_traffic S, k_market S, g_cnt S, r_land S, r_routes S, r_traffic S, r_market S, r_nodes S, r_hear S, r_rland S, r_tland S, r_troutes S, q_isWithin, e1, sl, eS, eL, hr]
end XC5
