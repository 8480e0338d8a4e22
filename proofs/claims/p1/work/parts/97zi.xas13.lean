/-! xas13: ways, routes in values -/
def wy9 (α : As) (j : Nat) : Nat → Nat → Nat → Int32
  | 0, _, _ => -2
  | m + 1, k, a => if a = j then ii k else if α.1 (70 + a) j = -1 then -1 else wy9 α j m (k + 1) (tn9 (α.1 (70 + a) j))
/-- how many nodes the way from i to j comes to -/
def way9 (α : As) (i j : Nat) : Int32 := wy9 α j 8 1 i
def rto9 (α : As) (i j : Nat) : Nat → Int32
  | 0 => α.1 (60 + i) j
  | 1 => α.1 (70 + i) j
  | 2 => if (-1 : Int32) < way9 α i j then way9 α i j else -1
  | _ => bI (decide (way9 α i j = -2))
def rou9 (n : Nat) (α : As) (x y w : Int32) : Rs9 := if (isN n x && isN n y) = false then (1, 0, α) else if (!decide (x = y) && (decide (0 ≤ w) && decide (w ≤ 3))) = false then (2, 0, α) else (0, rto9 α (tn9 x) (tn9 y) (tn9 w), α)
/-- how many pairs go in circles -/
def cr9 (n : Nat) (α : As) : Int32 := upto (fun a s => upto (fun b s => s + bI (!decide (a = b) && decide (way9 α a b = -2))) n 0 s) n 0 0
theorem wy_s (α : As) (j m k a : Nat) : wy9 α j (m + 1) k a = if a = j then ii k else if α.1 (70 + a) j = -1 then -1 else wy9 α j m (k + 1) (tn9 (α.1 (70 + a) j)) := rfl
theorem wy_circle {α : As} {j : Nat} (C : Nat → Prop) (hC : ∀ a, C a → a ≠ j ∧ ∃ b, b < 8 ∧ C b ∧ α.1 (70 + a) j = ii b) : ∀ m k a, C a → wy9 α j m k a = -2
  | 0, _, _, _ => rfl
  | m + 1, k, a, h => by
    obtain ⟨h1, b, h2, h3, h4⟩ := hC a h
    rw [wy_s, if_neg h1, h4, if_neg (ii_m1 (by omega)), tn_ii (by omega)]
    exact wy_circle C hC m (k + 1) b h3
theorem wy_val (α : As) (j : Nat) : ∀ m k a, wy9 α j m k a = -1 ∨ wy9 α j m k a = -2 ∨ ∃ L, L ≤ k + m ∧ wy9 α j m k a = ii L
  | 0, _, _ => Or.inr (Or.inl rfl)
  | m + 1, k, a => by
    rw [wy_s]
    split
    · exact Or.inr (Or.inr ⟨k, by omega, rfl⟩)
    · split
      · exact Or.inl rfl
      · rcases wy_val α j m (k + 1) (tn9 (α.1 (70 + a) j)) with h | h | ⟨L, h1, h2⟩
        · exact Or.inl h
        · exact Or.inr (Or.inl h)
        · exact Or.inr (Or.inr ⟨L, by omega, h2⟩)
section RQ3
variable {τ τ' : Nat → Nat} {n A c B B1 m T : Nat} {K : Int32} {p b9 x9 p9 : Nat → Nat} {h h' : Hp} {α : As}
theorem qx_mway (R : RM τ n p A c B K h) (V : RA τ n p c B1 h α) {i j : Nat} (hi : i < n) (hj : j < n) : ∀ Q, WP Gm j_Mdl_way 0 [some (.inr (.inl (some 121))), some (.inl (ii i)), some (.inl (ii j)), none, none, none] [] h Q = Q (.inl (some (.inl (way9 α i j)))) h := by
  have hn := R.n8
  have key : ∀ (m k : Nat) (s : Int32) (x : Nat → Nat), k + m = 9 → 1 ≤ k → (∀ u, u < k → x u < n) → (∀ u v, u < v → v < k → x u ≠ x v) → (∀ u, u + 1 < k → x u ≠ j ∧ α.1 (70 + x u) j = ii (x (u + 1))) → (∀ v, v < 8 → (tb s v = true ↔ ∃ u, u < k ∧ x u = v)) → ∀ Q, WP Gm j_Mdl_way 10 [some (.inr (.inl (some 121))), some (.inl (ii i)), some (.inl (ii j)), some (.inl s), some (.inl (ii k)), some (.inl (ii (x (k - 1))))] [] h Q = Q (.inl (some (.inl (wy9 α j m k (x (k - 1)))))) h := by
    intro m
    induction m with
    | zero =>
      intro k s x hk h1 hx hinj hst hs
      exfalso
      obtain ⟨u, v, p1, p2, p3⟩ := pigeon n k x (by omega) hx
      exact hinj u v p1 p2 p3
    | succ m ih =>
      intro k s x hk h1 hx hinj hst hs Q
      have ht := hx (k - 1) (by omega)
      generalize htt : x (k - 1) = t at ht ⊢
      rw [wy_s]
      by_cases htj : t = j
      · rw [if_pos htj, e_Mdl_way_10]
        simp only [↓e_Mdl_way_0, ↓e_Mdl_way_1, ↓e_Mdl_way_2, ↓e_Mdl_way_3, ↓e_Mdl_way_4, ↓e_Mdl_way_5, ↓e_Mdl_way_7, ↓e_Mdl_way_8, ↓e_Mdl_way_12, ↓e_Mdl_way_13, ↓e_Mdl_way_16, ↓e_Mdl_way_17, ↓e_Mdl_way_20, ↓e_Mdl_way_22, ↓e_Mdl_way_25, ↓e_Mdl_way_28, ↓e_Mdl_way_31, ↓e_Mdl_way_32, ↓e_Mdl_way_33, ↓e_Mdl_way_35, ↓e_Mdl_way_37, ↓e_Mdl_way_38, ↓e_Mdl_way_41, ↓e_Mdl_way_42, ↓e_Mdl_way_43, ↓e_Mdl_way_44, ↓e_Mdl_way_46, ↓e_Mdl_way_49, ↓e_Mdl_way_52, ↓e_Mdl_way_54, ↓e_Mdl_way_55, ↓e_Mdl_way_56, ↓e_Mdl_way_57, ↓e_Mdl_way_59, ↓e_Mdl_way_60, ↓e_Mdl_way_61, ↓e_Mdl_way_62, ↓e_Mdl_way_65, ↓e_Mdl_way_68, ↓e_Mdl_way_70, not_true_eq_false, not_false_eq_true, one0, true_or, or_true, eq_self, bI_z, bI_nz, bI_o, b_ft, bI_1, bI_0, ↓kC_l, ↓kC_r, Option.toList_some, Option.toList_none, List.cons_append, List.nil_append, s1_0, s1_1i, s1_1r, s1_1w, s1_1n, s1_s, s2_0, s2_1i, s2_1r, s2_1w, s2_1n, s2_s, gI_sI, gI_sR, gI_sL, gI_sD, gR_sI, gR_sR, gR_sL, gR_sD, gL_sI, gL_sR, gL_sL, gL_sD, gD_sI, gD_sR, gD_sL, gD_sD, isK_sI, isK_sR, isK_sL, isK_sD, inL_sI, inL_sR, inL_sL, inL_sD, nx_sI, nx_sR, nx_sL, nx_sD, kd_sI, kd_sR, kd_sL, kd_sD, ln_sI, ln_sR, ln_sL, ln_sD, ↓reduceIte, c8_n, c8_1, c8_2, c8_3, c8_4, Nat.reduceAdd, htj]
      · rw [if_neg htj]
        have hne : (ii t = ii j) = False := by rw [ii_inj (by omega) (by omega)]; exact eq_false htj
        obtain ⟨d1, d2, -⟩ := R.nd ht
        have g1 := d1.2.2.1.2.2
        have g2 := d1.2.2.2.2.1
        have g3 := d1.2.2.2.2.2
        have g4 : inL h (p t + 3) (ii j) = true := inL_n (by omega) (by rw [g3]; omega)
        have er : gI h (p t + 3) j = α.1 (70 + t) j := V.rt ht (by omega)
        rcases d2 j (by omega) with e | ⟨r, r1, r2⟩
        · rw [← er, if_pos e, e_Mdl_way_10]
          simp only [↓e_Mdl_way_0, ↓e_Mdl_way_1, ↓e_Mdl_way_2, ↓e_Mdl_way_3, ↓e_Mdl_way_4, ↓e_Mdl_way_5, ↓e_Mdl_way_7, ↓e_Mdl_way_8, ↓e_Mdl_way_12, ↓e_Mdl_way_13, ↓e_Mdl_way_16, ↓e_Mdl_way_17, ↓e_Mdl_way_20, ↓e_Mdl_way_22, ↓e_Mdl_way_25, ↓e_Mdl_way_28, ↓e_Mdl_way_31, ↓e_Mdl_way_32, ↓e_Mdl_way_33, ↓e_Mdl_way_35, ↓e_Mdl_way_37, ↓e_Mdl_way_38, ↓e_Mdl_way_41, ↓e_Mdl_way_42, ↓e_Mdl_way_43, ↓e_Mdl_way_44, ↓e_Mdl_way_46, ↓e_Mdl_way_49, ↓e_Mdl_way_52, ↓e_Mdl_way_54, ↓e_Mdl_way_55, ↓e_Mdl_way_56, ↓e_Mdl_way_57, ↓e_Mdl_way_59, ↓e_Mdl_way_60, ↓e_Mdl_way_61, ↓e_Mdl_way_62, ↓e_Mdl_way_65, ↓e_Mdl_way_68, ↓e_Mdl_way_70, not_true_eq_false, not_false_eq_true, one0, true_or, or_true, eq_self, bI_z, bI_nz, bI_o, b_ft, bI_1, bI_0, ↓kC_l, ↓kC_r, Option.toList_some, Option.toList_none, List.cons_append, List.nil_append, s1_0, s1_1i, s1_1r, s1_1w, s1_1n, s1_s, s2_0, s2_1i, s2_1r, s2_1w, s2_1n, s2_s, gI_sI, gI_sR, gI_sL, gI_sD, gR_sI, gR_sR, gR_sL, gR_sD, gL_sI, gL_sR, gL_sL, gL_sD, gD_sI, gD_sR, gD_sL, gD_sD, isK_sI, isK_sR, isK_sL, isK_sD, inL_sI, inL_sR, inL_sL, inL_sD, nx_sI, nx_sR, nx_sL, nx_sD, kd_sI, kd_sR, kd_sL, kd_sD, ln_sI, ln_sR, ln_sL, ln_sD, ↓reduceIte, c8_n, c8_1, c8_2, c8_3, c8_4, Nat.reduceAdd, hne, R.k, R.r9, R.k122, q_ng _ R ht, R.nk ht, R.nz ht, g1, g2, g4, ii_nat (show j < 2147483648 by omega), e]
        · have r2' : α.1 (70 + t) j = ii r := er.symm.trans r2
          have hr1 : (ii r = -1) = False := eq_false (ii_m1 (by omega))
          rw [r2', if_neg (ii_m1 (show r < 2147483648 by omega)), tn_ii (show r < 2147483648 by omega)]
          cases hb : tb s r with
          | true =>
            obtain ⟨u, u1, u2⟩ := (hs r (by omega)).mp hb
            have hc := wy_circle (α := α) (j := j) (fun a => ∃ v, u ≤ v ∧ v < k ∧ x v = a) (fun a ha => by
              obtain ⟨v, v1, v2, v3⟩ := ha
              by_cases e : v + 1 < k
              · obtain ⟨w1, w2⟩ := hst v e
                rw [v3] at w1 w2
                exact ⟨w1, x (v + 1), by have := hx (v + 1) e; omega, ⟨v + 1, by omega, e, rfl⟩, w2⟩
              · have ev : v = k - 1 := by omega
                rw [ev, htt] at v3
                subst v3
                exact ⟨htj, r, by omega, ⟨u, Nat.le_refl u, u1, u2⟩, r2'⟩) m (k + 1) r ⟨u, Nat.le_refl u, u1, u2⟩
            rw [hc, e_Mdl_way_10]
            simp only [↓e_Mdl_way_0, ↓e_Mdl_way_1, ↓e_Mdl_way_2, ↓e_Mdl_way_3, ↓e_Mdl_way_4, ↓e_Mdl_way_5, ↓e_Mdl_way_7, ↓e_Mdl_way_8, ↓e_Mdl_way_12, ↓e_Mdl_way_13, ↓e_Mdl_way_16, ↓e_Mdl_way_17, ↓e_Mdl_way_20, ↓e_Mdl_way_22, ↓e_Mdl_way_25, ↓e_Mdl_way_28, ↓e_Mdl_way_31, ↓e_Mdl_way_32, ↓e_Mdl_way_33, ↓e_Mdl_way_35, ↓e_Mdl_way_37, ↓e_Mdl_way_38, ↓e_Mdl_way_41, ↓e_Mdl_way_42, ↓e_Mdl_way_43, ↓e_Mdl_way_44, ↓e_Mdl_way_46, ↓e_Mdl_way_49, ↓e_Mdl_way_52, ↓e_Mdl_way_54, ↓e_Mdl_way_55, ↓e_Mdl_way_56, ↓e_Mdl_way_57, ↓e_Mdl_way_59, ↓e_Mdl_way_60, ↓e_Mdl_way_61, ↓e_Mdl_way_62, ↓e_Mdl_way_65, ↓e_Mdl_way_68, ↓e_Mdl_way_70, not_true_eq_false, not_false_eq_true, one0, true_or, or_true, eq_self, bI_z, bI_nz, bI_o, b_ft, bI_1, bI_0, ↓kC_l, ↓kC_r, Option.toList_some, Option.toList_none, List.cons_append, List.nil_append, s1_0, s1_1i, s1_1r, s1_1w, s1_1n, s1_s, s2_0, s2_1i, s2_1r, s2_1w, s2_1n, s2_s, gI_sI, gI_sR, gI_sL, gI_sD, gR_sI, gR_sR, gR_sL, gR_sD, gL_sI, gL_sR, gL_sL, gL_sD, gD_sI, gD_sR, gD_sL, gD_sD, isK_sI, isK_sR, isK_sL, isK_sD, inL_sI, inL_sR, inL_sL, inL_sD, nx_sI, nx_sR, nx_sL, nx_sD, kd_sI, kd_sR, kd_sL, kd_sD, ln_sI, ln_sR, ln_sL, ln_sD, ↓reduceIte, c8_n, c8_1, c8_2, c8_3, c8_4, Nat.reduceAdd, hne, R.k, R.r9, R.k122, q_ng _ R ht, R.nk ht, R.nz ht, g1, g2, g4, ii_nat (show j < 2147483648 by omega), r2, hr1, q_mtb, hb]
          | false =>
            have hnew : ∀ u, u < k → x u ≠ r := fun u hu e => by
              rw [(hs r (by omega)).mpr ⟨u, hu, e⟩] at hb
              cases hb
            have e1 : ∀ v, v < 8 → tb (s ||| 1 <<< (ii r &&& 31)) v = (tb s v || decide (r = v)) := fun v hv => by
              show tb (s ||| bitN r) v = _
              rw [tb_or s _ (by omega), tb_bitN (by omega) (by omega)]
            have nx9 := ih (k + 1) (s ||| 1 <<< (ii r &&& 31)) (fun u => if u = k then r else x u) (by omega) (by omega)
              (fun u hu => by
                by_cases e : u = k
                · rw [if_pos e]; exact r1
                · rw [if_neg e]; exact hx u (by omega))
              (fun u v h1 h2 => by
                rw [if_neg (show ¬ u = k by omega)]
                by_cases e : v = k
                · rw [if_pos e]; exact hnew u (by omega)
                · rw [if_neg e]; exact hinj u v h1 (by omega))
              (fun u hu => by
                rw [if_neg (show ¬ u = k by omega)]
                by_cases e : u + 1 = k
                · rw [if_pos e, show u = k - 1 by omega, htt]; exact ⟨htj, r2'⟩
                · rw [if_neg e]; exact hst u (by omega))
              (fun v hv => by
                rw [e1 v hv, Bool.or_eq_true, decide_eq_true_eq, hs v hv]
                constructor
                · rintro (⟨u, u1, u2⟩ | e)
                  · exact ⟨u, by omega, by rw [if_neg (by omega)]; exact u2⟩
                  · exact ⟨k, by omega, by rw [if_pos rfl]; exact e⟩
                · rintro ⟨u, u1, u2⟩
                  by_cases e : u = k
                  · rw [if_pos e] at u2; exact Or.inr u2
                  · rw [if_neg e] at u2; exact Or.inl ⟨u, by omega, u2⟩) Q
            have ek : (if k + 1 - 1 = k then r else x (k + 1 - 1)) = r := if_pos (by omega)
            rw [ek] at nx9
            rw [← nx9, e_Mdl_way_10]
            simp only [↓e_Mdl_way_0, ↓e_Mdl_way_1, ↓e_Mdl_way_2, ↓e_Mdl_way_3, ↓e_Mdl_way_4, ↓e_Mdl_way_5, ↓e_Mdl_way_7, ↓e_Mdl_way_8, ↓e_Mdl_way_12, ↓e_Mdl_way_13, ↓e_Mdl_way_16, ↓e_Mdl_way_17, ↓e_Mdl_way_20, ↓e_Mdl_way_22, ↓e_Mdl_way_25, ↓e_Mdl_way_28, ↓e_Mdl_way_31, ↓e_Mdl_way_32, ↓e_Mdl_way_33, ↓e_Mdl_way_35, ↓e_Mdl_way_37, ↓e_Mdl_way_38, ↓e_Mdl_way_41, ↓e_Mdl_way_42, ↓e_Mdl_way_43, ↓e_Mdl_way_44, ↓e_Mdl_way_46, ↓e_Mdl_way_49, ↓e_Mdl_way_52, ↓e_Mdl_way_54, ↓e_Mdl_way_55, ↓e_Mdl_way_56, ↓e_Mdl_way_57, ↓e_Mdl_way_59, ↓e_Mdl_way_60, ↓e_Mdl_way_61, ↓e_Mdl_way_62, ↓e_Mdl_way_65, ↓e_Mdl_way_68, ↓e_Mdl_way_70, not_true_eq_false, not_false_eq_true, one0, true_or, or_true, eq_self, bI_z, bI_nz, bI_o, b_ft, bI_1, bI_0, ↓kC_l, ↓kC_r, Option.toList_some, Option.toList_none, List.cons_append, List.nil_append, s1_0, s1_1i, s1_1r, s1_1w, s1_1n, s1_s, s2_0, s2_1i, s2_1r, s2_1w, s2_1n, s2_s, gI_sI, gI_sR, gI_sL, gI_sD, gR_sI, gR_sR, gR_sL, gR_sD, gL_sI, gL_sR, gL_sL, gL_sD, gD_sI, gD_sR, gD_sL, gD_sD, isK_sI, isK_sR, isK_sL, isK_sD, inL_sI, inL_sR, inL_sL, inL_sD, nx_sI, nx_sR, nx_sL, nx_sD, kd_sI, kd_sR, kd_sL, kd_sD, ln_sI, ln_sR, ln_sL, ln_sD, ↓reduceIte, c8_n, c8_1, c8_2, c8_3, c8_4, Nat.reduceAdd, hne, R.k, R.r9, R.k122, q_ng _ R ht, R.nk ht, R.nz ht, g1, g2, g4, ii_nat (show j < 2147483648 by omega), r2, hr1, q_mtb, hb, ii_succ]
  intro Q
  have k0 := key 8 1 (1 <<< (ii i &&& 31)) (fun _ => i) (by omega) (by omega) (fun _ _ => hi) (fun u v h1 h2 => by omega) (fun u hu => by omega) (fun v hv => by
    show tb (bitN i) v = true ↔ _
    rw [tb_bitN (by omega) (by omega), decide_eq_true_eq]
    exact ⟨fun e => ⟨0, by omega, e⟩, fun ⟨u, _, e⟩ => e⟩) Q
  have e0 : way9 α i j = wy9 α j 8 1 ((fun _ => i) (1 - 1)) := rfl
  rw [e0, ← k0]
  simp only [↓e_Mdl_way_0, ↓e_Mdl_way_1, ↓e_Mdl_way_2, ↓e_Mdl_way_3, ↓e_Mdl_way_4, ↓e_Mdl_way_5, ↓e_Mdl_way_7, ↓e_Mdl_way_8, ↓e_Mdl_way_12, ↓e_Mdl_way_13, ↓e_Mdl_way_16, ↓e_Mdl_way_17, ↓e_Mdl_way_20, ↓e_Mdl_way_22, ↓e_Mdl_way_25, ↓e_Mdl_way_28, ↓e_Mdl_way_31, ↓e_Mdl_way_32, ↓e_Mdl_way_33, ↓e_Mdl_way_35, ↓e_Mdl_way_37, ↓e_Mdl_way_38, ↓e_Mdl_way_41, ↓e_Mdl_way_42, ↓e_Mdl_way_43, ↓e_Mdl_way_44, ↓e_Mdl_way_46, ↓e_Mdl_way_49, ↓e_Mdl_way_52, ↓e_Mdl_way_54, ↓e_Mdl_way_55, ↓e_Mdl_way_56, ↓e_Mdl_way_57, ↓e_Mdl_way_59, ↓e_Mdl_way_60, ↓e_Mdl_way_61, ↓e_Mdl_way_62, ↓e_Mdl_way_65, ↓e_Mdl_way_68, ↓e_Mdl_way_70, not_true_eq_false, not_false_eq_true, one0, true_or, or_true, eq_self, bI_z, bI_nz, bI_o, b_ft, bI_1, bI_0, ↓kC_l, ↓kC_r, Option.toList_some, Option.toList_none, List.cons_append, List.nil_append, s1_0, s1_1i, s1_1r, s1_1w, s1_1n, s1_s, s2_0, s2_1i, s2_1r, s2_1w, s2_1n, s2_s, gI_sI, gI_sR, gI_sL, gI_sD, gR_sI, gR_sR, gR_sL, gR_sD, gL_sI, gL_sR, gL_sL, gL_sD, gD_sI, gD_sR, gD_sL, gD_sD, isK_sI, isK_sR, isK_sL, isK_sD, inL_sI, inL_sR, inL_sL, inL_sD, nx_sI, nx_sR, nx_sL, nx_sD, kd_sI, kd_sR, kd_sL, kd_sD, ln_sI, ln_sR, ln_sL, ln_sD, ↓reduceIte, c8_n, c8_1, c8_2, c8_3, c8_4, Nat.reduceAdd]
  rfl
theorem qx_mrouteTold (R : RM τ n p A c B K h) (V : RA τ n p c B1 h α) {i j w : Nat} (hi : i < n) (hj : j < n) (hw : w ≤ 3) (hn1 : nx h + 1 ≤ 580300) (hs1 : sc h + 16 ≤ 5700000) :
    ∃ g, (∀ Q, WP Gm j_Mdl_routeTold 0 [some (.inr (.inl (some 121))), some (.inl (ii i)), some (.inl (ii j)), some (.inl (ii w)), none, none] [] h Q = Q (.inl (some (.inl (rto9 α i j w)))) g) ∧ Nw τ h 4 g := by
  have F := R.F
  have hn := R.n8
  obtain ⟨y0, y1, y2, y3, y4, -⟩ := nums
  have l4 : ((0 : Int32) ≤ 4) = True := eq_true (by decide)
  have hr : okR cM sM h 1 4 = true := ok_big (by omega) (by omega)
  have nz : (nx h = 0) = False := eq_false (by have := F.1; omega)
  have hv := qx_mway R V hi hj
  generalize hvv : way9 α i j = v at hv
  generalize hg0 : hN h 100 4 4 = g0
  have N0 : Nw τ h 4 g0 := by rw [← hg0]; exact Nw.new F 4
  have R0 := R.sw N0.w
  have j0 : inL g0 (nx h) 0 = true := N0.in (i := 0) (by omega) (by omega)
  have j1 : inL g0 (nx h) 1 = true := N0.in (i := 1) (by omega) (by omega)
  have j2 : inL g0 (nx h) 2 = true := N0.in (i := 2) (by omega) (by omega)
  have j3 : inL g0 (nx h) 3 = true := N0.in (i := 3) (by omega) (by omega)
  have k0 := N0.2.2.1
  obtain ⟨M0, -⟩ := R0.nd hi
  have i2 : inL g0 (p i + 2) (ii j) = true := inL_n (by omega) (by rw [M0.2.2.2.1.2]; omega)
  have nj : (ii j).toNatClampNeg = j := ii_nat (by omega)
  have ec : gI g0 (p i + 2) j = α.1 (60 + i) j := (V.jk R N0.2.2.2.2).cs hi (by omega)
  generalize hc : gI g0 (p i + 2) j = cs at ec
  generalize hg1 : sI g0 (nx h) 0 cs = g1
  have N1 : Nw τ h 4 g1 := by rw [← hg1]; exact N0.sI F
  have R1 := R.sw N1.w
  obtain ⟨M1, -⟩ := R1.nd hi
  have i3 : inL g1 (p i + 3) (ii j) = true := inL_n (by omega) (by rw [M1.2.2.2.2.2]; omega)
  have er : gI g1 (p i + 3) j = α.1 (70 + i) j := (V.jk R N1.2.2.2.2).rt hi (by omega)
  have j1' : inL g1 (nx h) 1 = true := N1.in (i := 1) (by omega) (by omega)
  generalize hg2 : sI (sI g1 (nx h) 1 (gI g1 (p i + 3) j)) (nx h) 2 (if (-1 : Int32) < v then v else -1) = g2
  have N2 : Nw τ h 4 g2 := by rw [← hg2]; exact (N1.sI F).sI F
  have j2' : inL g1 (nx h) 2 = true := N1.in (i := 2) (by omega) (by omega)
  have j3' : inL g2 (nx h) 3 = true := N2.in (i := 3) (by omega) (by omega)
  have iw : inL g2 (nx h) (ii w) = true := N2.in (by omega) (by omega)
  have cont : ∀ k, k < 3 → gI g2 (nx h) k = rto9 α i j k := fun k hk => by
    have : k = 0 ∨ k = 1 ∨ k = 2 := by omega
    rw [← hg2, er, ← hg1, ec]
    rcases this with rfl | rfl | rfl <;> simp only [gI_sI, Nat.reduceEqDiff, and_false, and_self, ↓reduceIte, rto9, hvv]
  have pre : ∀ Q, WP Gm j_Mdl_routeTold 0 [some (.inr (.inl (some 121))), some (.inl (ii i)), some (.inl (ii j)), some (.inl (ii w)), none, none] [] h Q = WP Gm j_Mdl_routeTold 58 [some (.inr (.inl (some 121))), some (.inl (ii i)), some (.inl (ii j)), some (.inl (ii w)), some (.inl v), none] [.inr (.inl (some (nx h)))] g2 Q := by
    intro Q
    simp only [↓e_Mdl_routeTold_0, ↓e_Mdl_routeTold_1, ↓e_Mdl_routeTold_2, ↓e_Mdl_routeTold_3, ↓e_Mdl_routeTold_6, ↓e_Mdl_routeTold_8, ↓e_Mdl_routeTold_9, ↓e_Mdl_routeTold_11, ↓e_Mdl_routeTold_12, ↓e_Mdl_routeTold_13, ↓e_Mdl_routeTold_14, ↓e_Mdl_routeTold_17, ↓e_Mdl_routeTold_18, ↓e_Mdl_routeTold_21, ↓e_Mdl_routeTold_24, ↓e_Mdl_routeTold_27, ↓e_Mdl_routeTold_28, ↓e_Mdl_routeTold_29, ↓e_Mdl_routeTold_30, ↓e_Mdl_routeTold_31, ↓e_Mdl_routeTold_32, ↓e_Mdl_routeTold_33, ↓e_Mdl_routeTold_36, ↓e_Mdl_routeTold_37, ↓e_Mdl_routeTold_40, ↓e_Mdl_routeTold_43, ↓e_Mdl_routeTold_46, ↓e_Mdl_routeTold_47, ↓e_Mdl_routeTold_48, ↓e_Mdl_routeTold_49, ↓e_Mdl_routeTold_50, ↓e_Mdl_routeTold_51, ↓e_Mdl_routeTold_52, ↓e_Mdl_routeTold_54, ↓e_Mdl_routeTold_57, ↓e_Mdl_routeTold_59, ↓e_Mdl_routeTold_60, ↓e_Mdl_routeTold_62, ↓e_Mdl_routeTold_64, ↓e_Mdl_routeTold_67, ↓e_Mdl_routeTold_68, ↓e_Mdl_routeTold_71, ↓e_Mdl_routeTold_72, ↓e_Mdl_routeTold_75, ↓e_Mdl_routeTold_76, ↓e_Mdl_routeTold_78, ↓e_Mdl_routeTold_80, ↓e_Mdl_routeTold_81, ↓e_Mdl_routeTold_82, not_true_eq_false, not_false_eq_true, one0, true_or, or_true, eq_self, bI_z, bI_nz, bI_o, b_ft, bI_1, bI_0, ↓kC_l, ↓kC_r, Option.toList_some, Option.toList_none, List.cons_append, List.nil_append, s1_0, s1_1i, s1_1r, s1_1w, s1_1n, s1_s, s2_0, s2_1i, s2_1r, s2_1w, s2_1n, s2_s, gI_sI, gI_sR, gI_sL, gI_sD, gR_sI, gR_sR, gR_sL, gR_sD, gL_sI, gL_sR, gL_sL, gL_sD, gD_sI, gD_sR, gD_sL, gD_sD, isK_sI, isK_sR, isK_sL, isK_sD, inL_sI, inL_sR, inL_sL, inL_sD, nx_sI, nx_sR, nx_sL, nx_sD, kd_sI, kd_sR, kd_sL, kd_sD, ln_sI, ln_sR, ln_sL, ln_sD, ↓reduceIte, c8_n, c8_1, c8_2, c8_3, c8_4, Nat.reduceAdd, R.k, hv, y4, l4, Nat.reduceLeDiff, and_self, hr, hg0, k0, R0.k, R0.r9, R0.k122, q_ng _ R0 hi, R0.nk hi, R0.nz hi, M0.2.2.1.2.1, M0.2.2.2.1.1, i2, nj, hc, j0, nz, y0, hg1, N1.2.2.1, R1.k, R1.r9, R1.k122, q_ng _ R1 hi, R1.nk hi, M1.2.2.1.2.2, M1.2.2.2.2.1, i3, j1', y1, q_mmax, j2', y2, hg2]
  have hw4 : w = 3 ∨ w < 3 := by omega
  by_cases e : v = -2
  · have ct : gI (sI g2 (nx h) 3 1) (nx h) w = rto9 α i j w := by
      rw [gI_sI]
      rcases hw4 with rfl | hw4
      · rw [if_pos ⟨rfl, rfl⟩]
        show (1 : Int32) = bI (decide (way9 α i j = -2))
        rw [hvv, decide_eq_true e]
        rfl
      · rw [if_neg (by omega)]; exact cont w hw4
    refine ⟨sI g2 (nx h) 3 1, fun Q => ?_, N2.sI F⟩
    rw [pre, ← ct]
    simp only [↓e_Mdl_routeTold_0, ↓e_Mdl_routeTold_1, ↓e_Mdl_routeTold_2, ↓e_Mdl_routeTold_3, ↓e_Mdl_routeTold_6, ↓e_Mdl_routeTold_8, ↓e_Mdl_routeTold_9, ↓e_Mdl_routeTold_11, ↓e_Mdl_routeTold_12, ↓e_Mdl_routeTold_13, ↓e_Mdl_routeTold_14, ↓e_Mdl_routeTold_17, ↓e_Mdl_routeTold_18, ↓e_Mdl_routeTold_21, ↓e_Mdl_routeTold_24, ↓e_Mdl_routeTold_27, ↓e_Mdl_routeTold_28, ↓e_Mdl_routeTold_29, ↓e_Mdl_routeTold_30, ↓e_Mdl_routeTold_31, ↓e_Mdl_routeTold_32, ↓e_Mdl_routeTold_33, ↓e_Mdl_routeTold_36, ↓e_Mdl_routeTold_37, ↓e_Mdl_routeTold_40, ↓e_Mdl_routeTold_43, ↓e_Mdl_routeTold_46, ↓e_Mdl_routeTold_47, ↓e_Mdl_routeTold_48, ↓e_Mdl_routeTold_49, ↓e_Mdl_routeTold_50, ↓e_Mdl_routeTold_51, ↓e_Mdl_routeTold_52, ↓e_Mdl_routeTold_54, ↓e_Mdl_routeTold_57, ↓e_Mdl_routeTold_58, ↓e_Mdl_routeTold_59, ↓e_Mdl_routeTold_60, ↓e_Mdl_routeTold_62, ↓e_Mdl_routeTold_64, ↓e_Mdl_routeTold_67, ↓e_Mdl_routeTold_68, ↓e_Mdl_routeTold_71, ↓e_Mdl_routeTold_72, ↓e_Mdl_routeTold_75, ↓e_Mdl_routeTold_76, ↓e_Mdl_routeTold_78, ↓e_Mdl_routeTold_80, ↓e_Mdl_routeTold_81, ↓e_Mdl_routeTold_82, not_true_eq_false, not_false_eq_true, one0, true_or, or_true, eq_self, bI_z, bI_nz, bI_o, b_ft, bI_1, bI_0, ↓kC_l, ↓kC_r, Option.toList_some, Option.toList_none, List.cons_append, List.nil_append, s1_0, s1_1i, s1_1r, s1_1w, s1_1n, s1_s, s2_0, s2_1i, s2_1r, s2_1w, s2_1n, s2_s, gI_sI, gI_sR, gI_sL, gI_sD, gR_sI, gR_sR, gR_sL, gR_sD, gL_sI, gL_sR, gL_sL, gL_sD, gD_sI, gD_sR, gD_sL, gD_sD, isK_sI, isK_sR, isK_sL, isK_sD, inL_sI, inL_sR, inL_sL, inL_sD, nx_sI, nx_sR, nx_sL, nx_sD, kd_sI, kd_sR, kd_sL, kd_sD, ln_sI, ln_sR, ln_sL, ln_sD, ↓reduceIte, c8_n, c8_1, c8_2, c8_3, c8_4, Nat.reduceAdd, e, o_one1, N2.2.2.1, j3', nz, y3, iw, ii_nat (show w < 2147483648 by omega), true_and]
  · have ct : gI (sI g2 (nx h) 3 0) (nx h) w = rto9 α i j w := by
      rw [gI_sI]
      rcases hw4 with rfl | hw4
      · rw [if_pos ⟨rfl, rfl⟩]
        show (0 : Int32) = bI (decide (way9 α i j = -2))
        rw [hvv, decide_eq_false e]
        rfl
      · rw [if_neg (by omega)]; exact cont w hw4
    refine ⟨sI g2 (nx h) 3 0, fun Q => ?_, N2.sI F⟩
    rw [pre, ← ct]
    simp only [↓e_Mdl_routeTold_0, ↓e_Mdl_routeTold_1, ↓e_Mdl_routeTold_2, ↓e_Mdl_routeTold_3, ↓e_Mdl_routeTold_6, ↓e_Mdl_routeTold_8, ↓e_Mdl_routeTold_9, ↓e_Mdl_routeTold_11, ↓e_Mdl_routeTold_12, ↓e_Mdl_routeTold_13, ↓e_Mdl_routeTold_14, ↓e_Mdl_routeTold_17, ↓e_Mdl_routeTold_18, ↓e_Mdl_routeTold_21, ↓e_Mdl_routeTold_24, ↓e_Mdl_routeTold_27, ↓e_Mdl_routeTold_28, ↓e_Mdl_routeTold_29, ↓e_Mdl_routeTold_30, ↓e_Mdl_routeTold_31, ↓e_Mdl_routeTold_32, ↓e_Mdl_routeTold_33, ↓e_Mdl_routeTold_36, ↓e_Mdl_routeTold_37, ↓e_Mdl_routeTold_40, ↓e_Mdl_routeTold_43, ↓e_Mdl_routeTold_46, ↓e_Mdl_routeTold_47, ↓e_Mdl_routeTold_48, ↓e_Mdl_routeTold_49, ↓e_Mdl_routeTold_50, ↓e_Mdl_routeTold_51, ↓e_Mdl_routeTold_52, ↓e_Mdl_routeTold_54, ↓e_Mdl_routeTold_57, ↓e_Mdl_routeTold_58, ↓e_Mdl_routeTold_59, ↓e_Mdl_routeTold_60, ↓e_Mdl_routeTold_62, ↓e_Mdl_routeTold_64, ↓e_Mdl_routeTold_67, ↓e_Mdl_routeTold_68, ↓e_Mdl_routeTold_71, ↓e_Mdl_routeTold_72, ↓e_Mdl_routeTold_75, ↓e_Mdl_routeTold_76, ↓e_Mdl_routeTold_78, ↓e_Mdl_routeTold_80, ↓e_Mdl_routeTold_81, ↓e_Mdl_routeTold_82, not_true_eq_false, not_false_eq_true, one0, true_or, or_true, eq_self, bI_z, bI_nz, bI_o, b_ft, bI_1, bI_0, ↓kC_l, ↓kC_r, Option.toList_some, Option.toList_none, List.cons_append, List.nil_append, s1_0, s1_1i, s1_1r, s1_1w, s1_1n, s1_s, s2_0, s2_1i, s2_1r, s2_1w, s2_1n, s2_s, gI_sI, gI_sR, gI_sL, gI_sD, gR_sI, gR_sR, gR_sL, gR_sD, gL_sI, gL_sR, gL_sL, gL_sD, gD_sI, gD_sR, gD_sL, gD_sD, isK_sI, isK_sR, isK_sL, isK_sD, inL_sI, inL_sR, inL_sL, inL_sD, nx_sI, nx_sR, nx_sL, nx_sD, kd_sI, kd_sR, kd_sL, kd_sD, ln_sI, ln_sR, ln_sL, ln_sD, ↓reduceIte, c8_n, c8_1, c8_2, c8_3, c8_4, Nat.reduceAdd, e, o_one0, N2.2.2.1, j3', nz, y3, iw, ii_nat (show w < 2147483648 by omega), true_and]
theorem qx_mroute (R : RM τ n p (8 * B) c B K h) (V0 : RA τ n p c B (sI h 121 0 0) α) (VB : BB τ b9 x9 p9 m h) (hn1 : nx h + 1000 ≤ 580300) (hs1 : sc h + 7000 ≤ 5700000) (x y z : Int32) :
    ∃ v h', (∀ Q, WP Gm j_Mdl_route 0 [some (.inr (.inl (some 121))), some (.inl x), some (.inl y), some (.inl z)] [] h Q = Q (.inl (some (.inl v))) h') ∧ RES τ n c B K b9 x9 p9 m h h' v (rou9 n α x y z) := by
  have hn := R.n8
  have R0 : RM τ n p (8 * B) c B K (sI h 121 0 0) := R.th
  unfold rou9
  rcases node_cases hn x with hb | ⟨hb, i, hi, rfl⟩
  · rw [if_pos (by rw [isN_no hb]; rfl)]
    refine ⟨0, sI (sI h 121 0 0) 121 0 1, fun Q => ?_, RES.no R V0 VB (by decide) 0 0⟩
    simp only [↓e_Mdl_route_0, ↓e_Mdl_route_1, ↓e_Mdl_route_2, ↓e_Mdl_route_3, ↓e_Mdl_route_6, ↓e_Mdl_route_9, ↓e_Mdl_route_10, ↓e_Mdl_route_11, ↓e_Mdl_route_14, ↓e_Mdl_route_17, ↓e_Mdl_route_18, ↓e_Mdl_route_21, ↓e_Mdl_route_22, ↓e_Mdl_route_23, ↓e_Mdl_route_26, ↓e_Mdl_route_29, ↓e_Mdl_route_30, ↓e_Mdl_route_31, ↓e_Mdl_route_32, ↓e_Mdl_route_35, ↓e_Mdl_route_36, ↓e_Mdl_route_37, ↓e_Mdl_route_38, ↓e_Mdl_route_41, ↓e_Mdl_route_44, ↓e_Mdl_route_45, ↓e_Mdl_route_48, ↓e_Mdl_route_49, ↓e_Mdl_route_50, ↓e_Mdl_route_53, ↓e_Mdl_route_56, ↓e_Mdl_route_57, ↓e_Mdl_route_60, ↓e_Mdl_route_61, ↓e_Mdl_route_62, ↓e_Mdl_route_63, ↓e_Mdl_route_64, ↓e_Mdl_route_67, not_true_eq_false, not_false_eq_true, one0, true_or, or_true, eq_self, bI_z, bI_nz, bI_o, b_ft, bI_1, bI_0, ↓kC_l, ↓kC_r, Option.toList_some, Option.toList_none, List.cons_append, List.nil_append, s1_0, s1_1i, s1_1r, s1_1w, s1_1n, s1_s, s2_0, s2_1i, s2_1r, s2_1w, s2_1n, s2_s, gI_sI, gI_sR, gI_sL, gI_sD, gR_sI, gR_sR, gR_sL, gR_sD, gL_sI, gL_sR, gL_sL, gL_sD, gD_sI, gD_sR, gD_sL, gD_sD, isK_sI, isK_sR, isK_sL, isK_sD, inL_sI, inL_sR, inL_sL, inL_sD, nx_sI, nx_sR, nx_sL, nx_sD, kd_sI, kd_sR, kd_sL, kd_sD, ln_sI, ln_sR, ln_sL, ln_sD, ↓reduceIte, c8_n, c8_1, c8_2, c8_3, c8_4, Nat.reduceAdd, R.k, q_nbody _ R, hb, q_stT _ R]
  · rcases node_cases hn y with hb2 | ⟨hb2, j, hj, rfl⟩
    · rw [if_pos (by rw [isN_no hb2, Bool.and_false])]
      refine ⟨0, sI (sI h 121 0 0) 121 0 1, fun Q => ?_, RES.no R V0 VB (by decide) 0 0⟩
      simp only [↓e_Mdl_route_0, ↓e_Mdl_route_1, ↓e_Mdl_route_2, ↓e_Mdl_route_3, ↓e_Mdl_route_6, ↓e_Mdl_route_9, ↓e_Mdl_route_10, ↓e_Mdl_route_11, ↓e_Mdl_route_14, ↓e_Mdl_route_17, ↓e_Mdl_route_18, ↓e_Mdl_route_21, ↓e_Mdl_route_22, ↓e_Mdl_route_23, ↓e_Mdl_route_26, ↓e_Mdl_route_29, ↓e_Mdl_route_30, ↓e_Mdl_route_31, ↓e_Mdl_route_32, ↓e_Mdl_route_35, ↓e_Mdl_route_36, ↓e_Mdl_route_37, ↓e_Mdl_route_38, ↓e_Mdl_route_41, ↓e_Mdl_route_44, ↓e_Mdl_route_45, ↓e_Mdl_route_48, ↓e_Mdl_route_49, ↓e_Mdl_route_50, ↓e_Mdl_route_53, ↓e_Mdl_route_56, ↓e_Mdl_route_57, ↓e_Mdl_route_60, ↓e_Mdl_route_61, ↓e_Mdl_route_62, ↓e_Mdl_route_63, ↓e_Mdl_route_64, ↓e_Mdl_route_67, not_true_eq_false, not_false_eq_true, one0, true_or, or_true, eq_self, bI_z, bI_nz, bI_o, b_ft, bI_1, bI_0, ↓kC_l, ↓kC_r, Option.toList_some, Option.toList_none, List.cons_append, List.nil_append, s1_0, s1_1i, s1_1r, s1_1w, s1_1n, s1_s, s2_0, s2_1i, s2_1r, s2_1w, s2_1n, s2_s, gI_sI, gI_sR, gI_sL, gI_sD, gR_sI, gR_sR, gR_sL, gR_sD, gL_sI, gL_sR, gL_sL, gL_sD, gD_sI, gD_sR, gD_sL, gD_sD, isK_sI, isK_sR, isK_sL, isK_sD, inL_sI, inL_sR, inL_sL, inL_sD, nx_sI, nx_sR, nx_sL, nx_sD, kd_sI, kd_sR, kd_sL, kd_sD, ln_sI, ln_sR, ln_sL, ln_sD, ↓reduceIte, c8_n, c8_1, c8_2, c8_3, c8_4, Nat.reduceAdd, R.k, q_nbody _ R, hb, hb2, q_stT _ R]
    · rw [if_neg (by rw [isN_ok hb, isN_ok hb2]; decide), tn_ii (show i < 2147483648 by omega), tn_ii (show j < 2147483648 by omega)]
      have eij : (ii i = ii j) = (i = j) := ii_inj (by omega) (by omega)
      by_cases hij : i = j
      · rw [decide_eq_true (by rw [hij]), if_pos (by rfl)]
        refine ⟨0, sI (sI h 121 0 0) 121 0 2, fun Q => ?_, RES.no R V0 VB (by decide) 0 0⟩
        simp only [↓e_Mdl_route_0, ↓e_Mdl_route_1, ↓e_Mdl_route_2, ↓e_Mdl_route_3, ↓e_Mdl_route_6, ↓e_Mdl_route_9, ↓e_Mdl_route_10, ↓e_Mdl_route_11, ↓e_Mdl_route_14, ↓e_Mdl_route_17, ↓e_Mdl_route_18, ↓e_Mdl_route_21, ↓e_Mdl_route_22, ↓e_Mdl_route_23, ↓e_Mdl_route_26, ↓e_Mdl_route_29, ↓e_Mdl_route_30, ↓e_Mdl_route_31, ↓e_Mdl_route_32, ↓e_Mdl_route_35, ↓e_Mdl_route_36, ↓e_Mdl_route_37, ↓e_Mdl_route_38, ↓e_Mdl_route_41, ↓e_Mdl_route_44, ↓e_Mdl_route_45, ↓e_Mdl_route_48, ↓e_Mdl_route_49, ↓e_Mdl_route_50, ↓e_Mdl_route_53, ↓e_Mdl_route_56, ↓e_Mdl_route_57, ↓e_Mdl_route_60, ↓e_Mdl_route_61, ↓e_Mdl_route_62, ↓e_Mdl_route_63, ↓e_Mdl_route_64, ↓e_Mdl_route_67, not_true_eq_false, not_false_eq_true, one0, true_or, or_true, eq_self, bI_z, bI_nz, bI_o, b_ft, bI_1, bI_0, ↓kC_l, ↓kC_r, Option.toList_some, Option.toList_none, List.cons_append, List.nil_append, s1_0, s1_1i, s1_1r, s1_1w, s1_1n, s1_s, s2_0, s2_1i, s2_1r, s2_1w, s2_1n, s2_s, gI_sI, gI_sR, gI_sL, gI_sD, gR_sI, gR_sR, gR_sL, gR_sD, gL_sI, gL_sR, gL_sL, gL_sD, gD_sI, gD_sR, gD_sL, gD_sD, isK_sI, isK_sR, isK_sL, isK_sD, inL_sI, inL_sR, inL_sL, inL_sD, nx_sI, nx_sR, nx_sL, nx_sD, kd_sI, kd_sR, kd_sL, kd_sD, ln_sI, ln_sR, ln_sL, ln_sD, ↓reduceIte, c8_n, c8_1, c8_2, c8_3, c8_4, Nat.reduceAdd, R.k, q_nbody _ R, hb, hb2, q_stF _ R, R0.k, eij, hij, q_rfT _ R0 (show (0 : Int32) < 2 by decide) (th0 h)]
      · rw [decide_eq_false (show ¬ ii i = ii j by rw [eij]; exact hij)]
        cases e1 : (decide (0 ≤ z) && decide (z ≤ 3)) with
        | false =>
          rw [if_pos (by rfl)]
          refine ⟨0, sI (sI h 121 0 0) 121 0 2, fun Q => ?_, RES.no R V0 VB (by decide) 0 0⟩
          simp only [↓e_Mdl_route_0, ↓e_Mdl_route_1, ↓e_Mdl_route_2, ↓e_Mdl_route_3, ↓e_Mdl_route_6, ↓e_Mdl_route_9, ↓e_Mdl_route_10, ↓e_Mdl_route_11, ↓e_Mdl_route_14, ↓e_Mdl_route_17, ↓e_Mdl_route_18, ↓e_Mdl_route_21, ↓e_Mdl_route_22, ↓e_Mdl_route_23, ↓e_Mdl_route_26, ↓e_Mdl_route_29, ↓e_Mdl_route_30, ↓e_Mdl_route_31, ↓e_Mdl_route_32, ↓e_Mdl_route_35, ↓e_Mdl_route_36, ↓e_Mdl_route_37, ↓e_Mdl_route_38, ↓e_Mdl_route_41, ↓e_Mdl_route_44, ↓e_Mdl_route_45, ↓e_Mdl_route_48, ↓e_Mdl_route_49, ↓e_Mdl_route_50, ↓e_Mdl_route_53, ↓e_Mdl_route_56, ↓e_Mdl_route_57, ↓e_Mdl_route_60, ↓e_Mdl_route_61, ↓e_Mdl_route_62, ↓e_Mdl_route_63, ↓e_Mdl_route_64, ↓e_Mdl_route_67, not_true_eq_false, not_false_eq_true, one0, true_or, or_true, eq_self, bI_z, bI_nz, bI_o, b_ft, bI_1, bI_0, ↓kC_l, ↓kC_r, Option.toList_some, Option.toList_none, List.cons_append, List.nil_append, s1_0, s1_1i, s1_1r, s1_1w, s1_1n, s1_s, s2_0, s2_1i, s2_1r, s2_1w, s2_1n, s2_s, gI_sI, gI_sR, gI_sL, gI_sD, gR_sI, gR_sR, gR_sL, gR_sD, gL_sI, gL_sR, gL_sL, gL_sD, gD_sI, gD_sR, gD_sL, gD_sD, isK_sI, isK_sR, isK_sL, isK_sD, inL_sI, inL_sR, inL_sL, inL_sD, nx_sI, nx_sR, nx_sL, nx_sD, kd_sI, kd_sR, kd_sL, kd_sD, ln_sI, ln_sR, ln_sL, ln_sD, ↓reduceIte, c8_n, c8_1, c8_2, c8_3, c8_4, Nat.reduceAdd, R.k, q_nbody _ R, hb, hb2, q_stF _ R, R0.k, eij, hij, q_misIn, e1, q_rfT _ R0 (show (0 : Int32) < 2 by decide) (th0 h)]
        | true =>
          obtain ⟨w, w1, rfl⟩ := i32_cases (b := 3) (by omega) e1
          rw [if_neg (by decide), tn_ii (show w < 2147483648 by omega)]
          obtain ⟨g, g1, N⟩ := qx_mrouteTold R0 V0 hi hj w1 (by show nx h + 1 ≤ _; omega) (by show sc h + 16 ≤ _; omega)
          have n1 : nx g = nx h + 1 := N.1
          have s1 : sc g = sc h + 4 := N.2.1
          refine ⟨_, g, fun Q => ?_, RES.ok R V0 VB N.2.2.2.2 (by omega) (by omega) _⟩
          simp only [↓e_Mdl_route_0, ↓e_Mdl_route_1, ↓e_Mdl_route_2, ↓e_Mdl_route_3, ↓e_Mdl_route_6, ↓e_Mdl_route_9, ↓e_Mdl_route_10, ↓e_Mdl_route_11, ↓e_Mdl_route_14, ↓e_Mdl_route_17, ↓e_Mdl_route_18, ↓e_Mdl_route_21, ↓e_Mdl_route_22, ↓e_Mdl_route_23, ↓e_Mdl_route_26, ↓e_Mdl_route_29, ↓e_Mdl_route_30, ↓e_Mdl_route_31, ↓e_Mdl_route_32, ↓e_Mdl_route_35, ↓e_Mdl_route_36, ↓e_Mdl_route_37, ↓e_Mdl_route_38, ↓e_Mdl_route_41, ↓e_Mdl_route_44, ↓e_Mdl_route_45, ↓e_Mdl_route_48, ↓e_Mdl_route_49, ↓e_Mdl_route_50, ↓e_Mdl_route_53, ↓e_Mdl_route_56, ↓e_Mdl_route_57, ↓e_Mdl_route_60, ↓e_Mdl_route_61, ↓e_Mdl_route_62, ↓e_Mdl_route_63, ↓e_Mdl_route_64, ↓e_Mdl_route_67, not_true_eq_false, not_false_eq_true, one0, true_or, or_true, eq_self, bI_z, bI_nz, bI_o, b_ft, bI_1, bI_0, ↓kC_l, ↓kC_r, Option.toList_some, Option.toList_none, List.cons_append, List.nil_append, s1_0, s1_1i, s1_1r, s1_1w, s1_1n, s1_s, s2_0, s2_1i, s2_1r, s2_1w, s2_1n, s2_s, gI_sI, gI_sR, gI_sL, gI_sD, gR_sI, gR_sR, gR_sL, gR_sD, gL_sI, gL_sR, gL_sL, gL_sD, gD_sI, gD_sR, gD_sL, gD_sD, isK_sI, isK_sR, isK_sL, isK_sD, inL_sI, inL_sR, inL_sL, inL_sD, nx_sI, nx_sR, nx_sL, nx_sD, kd_sI, kd_sR, kd_sL, kd_sD, ln_sI, ln_sR, ln_sL, ln_sD, ↓reduceIte, c8_n, c8_1, c8_2, c8_3, c8_4, Nat.reduceAdd, R.k, q_nbody _ R, hb, hb2, q_stF _ R, R0.k, eij, hij, q_misIn, e1, q_rfF _ R0 _ (th0 h), g1]
theorem ca_follow (V : CA n h α) (S : Str n h) (Rv : Rv9 n α) {i j : Nat} (hi : i < n) (hj : j < n) : ∀ Q, WP Gm j_Routes_follow 0 [some (.inr (.inl (some 77))), some (.inl (ii i)), some (.inl (ii j)), none, none] [] h Q = Q (.inl (some (.inl (way9 α i j)))) h := by
  have hn := n8 S
  have hi8 : i < 8 := by omega
  have hj8 : j < 8 := by omega
  obtain ⟨c, R, wv, -⟩ := V.2.2.2.2.2.2.1
  have key : ∀ (m k a : Nat), k + m = 9 → 1 ≤ k → a < n → ∀ Q, WP Gm j_Routes_follow 5 [some (.inr (.inl (some 77))), some (.inl (ii i)), some (.inl (ii j)), some (.inl (ii a)), some (.inl (ii k))] [] h Q = Q (.inl (some (.inl (wy9 α j m k a)))) h := by
    intro m
    induction m with
    | zero =>
      intro k a hk h1 ha Q
      have : k = 9 := by omega
      subst this
      rw [e_Routes_follow_5]
      simp only [↓e_Routes_follow_0, ↓e_Routes_follow_1, ↓e_Routes_follow_2, ↓e_Routes_follow_3, ↓e_Routes_follow_7, ↓e_Routes_follow_9, ↓e_Routes_follow_12, ↓e_Routes_follow_13, ↓e_Routes_follow_14, ↓e_Routes_follow_17, ↓e_Routes_follow_19, ↓e_Routes_follow_20, ↓e_Routes_follow_21, ↓e_Routes_follow_22, ↓e_Routes_follow_23, ↓e_Routes_follow_26, ↓e_Routes_follow_27, ↓e_Routes_follow_28, ↓e_Routes_follow_31, ↓e_Routes_follow_32, ↓e_Routes_follow_35, ↓e_Routes_follow_38, ↓e_Routes_follow_39, ↓e_Routes_follow_40, ↓e_Routes_follow_43, ↓e_Routes_follow_46, ↓e_Routes_follow_48, not_true_eq_false, not_false_eq_true, one0, true_or, or_true, eq_self, bI_z, bI_nz, bI_o, b_ft, bI_1, bI_0, ↓kC_l, ↓kC_r, Option.toList_some, Option.toList_none, List.cons_append, List.nil_append, s1_0, s1_1i, s1_1r, s1_1w, s1_1n, s1_s, s2_0, s2_1i, s2_1r, s2_1w, s2_1n, s2_s, gI_sI, gI_sR, gI_sL, gI_sD, gR_sI, gR_sR, gR_sL, gR_sD, gL_sI, gL_sR, gL_sL, gL_sD, gD_sI, gD_sR, gD_sL, gD_sD, isK_sI, isK_sR, isK_sL, isK_sD, inL_sI, inL_sR, inL_sL, inL_sD, nx_sI, nx_sR, nx_sL, nx_sD, kd_sI, kd_sR, kd_sL, kd_sD, ln_sI, ln_sR, ln_sL, ln_sD, ↓reduceIte, c8_n, c8_1, c8_2, c8_3, c8_4, Nat.reduceAdd, (show ((8 : Int32) < ii 9) = True from eq_true (by decide))]
      rfl
    | succ m ih =>
      intro k a hk h1 ha Q
      have ha8 := lt_8 (n8 S) ha
      have e8 : ((8 : Int32) < ii k) = False := by
        rw [show (8 : Int32) = ii 8 from rfl, ii_lt (by omega) (by omega)]
        exact eq_false (by omega)
      rw [wy_s]
      by_cases haj : a = j
      · subst haj
        rw [if_pos rfl, e_Routes_follow_5]
        simp only [↓e_Routes_follow_0, ↓e_Routes_follow_1, ↓e_Routes_follow_2, ↓e_Routes_follow_3, ↓e_Routes_follow_7, ↓e_Routes_follow_9, ↓e_Routes_follow_12, ↓e_Routes_follow_13, ↓e_Routes_follow_14, ↓e_Routes_follow_17, ↓e_Routes_follow_19, ↓e_Routes_follow_20, ↓e_Routes_follow_21, ↓e_Routes_follow_22, ↓e_Routes_follow_23, ↓e_Routes_follow_26, ↓e_Routes_follow_27, ↓e_Routes_follow_28, ↓e_Routes_follow_31, ↓e_Routes_follow_32, ↓e_Routes_follow_35, ↓e_Routes_follow_38, ↓e_Routes_follow_39, ↓e_Routes_follow_40, ↓e_Routes_follow_43, ↓e_Routes_follow_46, ↓e_Routes_follow_48, not_true_eq_false, not_false_eq_true, one0, true_or, or_true, eq_self, bI_z, bI_nz, bI_o, b_ft, bI_1, bI_0, ↓kC_l, ↓kC_r, Option.toList_some, Option.toList_none, List.cons_append, List.nil_append, s1_0, s1_1i, s1_1r, s1_1w, s1_1n, s1_s, s2_0, s2_1i, s2_1r, s2_1w, s2_1n, s2_s, gI_sI, gI_sR, gI_sL, gI_sD, gR_sI, gR_sR, gR_sL, gR_sD, gL_sI, gL_sR, gL_sL, gL_sD, gD_sI, gD_sR, gD_sL, gD_sD, isK_sI, isK_sR, isK_sL, isK_sD, inL_sI, inL_sR, inL_sL, inL_sD, nx_sI, nx_sR, nx_sL, nx_sD, kd_sI, kd_sR, kd_sL, kd_sD, ln_sI, ln_sR, ln_sL, ln_sD, ↓reduceIte, c8_n, c8_1, c8_2, c8_3, c8_4, Nat.reduceAdd, e8]
      · rw [if_neg haj]
        have hne : (ii a = ii j) = False := by rw [ii_inj (by omega) (by omega)]; exact eq_false haj
        have er : gI h (c + 9 + 1 + a) j = α.1 (70 + a) j := (wv a ha j hj8).2
        rcases Rv a j ha hj8 with ⟨hm, -⟩ | ⟨v, d, v1, v2, v3, -⟩
        · rw [if_pos hm, e_Routes_follow_5]
          simp only [↓e_Routes_follow_0, ↓e_Routes_follow_1, ↓e_Routes_follow_2, ↓e_Routes_follow_3, ↓e_Routes_follow_7, ↓e_Routes_follow_9, ↓e_Routes_follow_12, ↓e_Routes_follow_13, ↓e_Routes_follow_14, ↓e_Routes_follow_17, ↓e_Routes_follow_19, ↓e_Routes_follow_20, ↓e_Routes_follow_21, ↓e_Routes_follow_22, ↓e_Routes_follow_23, ↓e_Routes_follow_26, ↓e_Routes_follow_27, ↓e_Routes_follow_28, ↓e_Routes_follow_31, ↓e_Routes_follow_32, ↓e_Routes_follow_35, ↓e_Routes_follow_38, ↓e_Routes_follow_39, ↓e_Routes_follow_40, ↓e_Routes_follow_43, ↓e_Routes_follow_46, ↓e_Routes_follow_48, not_true_eq_false, not_false_eq_true, one0, true_or, or_true, eq_self, bI_z, bI_nz, bI_o, b_ft, bI_1, bI_0, ↓kC_l, ↓kC_r, Option.toList_some, Option.toList_none, List.cons_append, List.nil_append, s1_0, s1_1i, s1_1r, s1_1w, s1_1n, s1_s, s2_0, s2_1i, s2_1r, s2_1w, s2_1n, s2_s, gI_sI, gI_sR, gI_sL, gI_sD, gR_sI, gR_sR, gR_sL, gR_sD, gL_sI, gL_sR, gL_sL, gL_sD, gD_sI, gD_sR, gD_sL, gD_sD, isK_sI, isK_sR, isK_sL, isK_sD, inL_sI, inL_sR, inL_sL, inL_sD, nx_sI, nx_sR, nx_sL, nx_sD, kd_sI, kd_sR, kd_sL, kd_sD, ln_sI, ln_sR, ln_sL, ln_sD, ↓reduceIte, c8_n, c8_1, c8_2, c8_3, c8_4, Nat.reduceAdd, k_s S, k_land S, k_nodes S, k_hear S, k_routes S, k_traffic S, k_market S, g_cnt S, r_land S, r_routes S, r_traffic S, r_market S, r_nodes S, r_hear S, r_rland S, r_tland S, r_troutes S, e8, hne, q_nextOf _ S R ha8 hj8, ha, hj, and_self, er, hm, q_isNode _ S, m1_node S]
        · have hv8 := lt_8 (n8 S) v1
          rw [v3, if_neg (ii_m1 (show v < 2147483648 by omega)), tn_ii (show v < 2147483648 by omega), ← ih (k + 1) v (by omega) (by omega) v1 Q, e_Routes_follow_5]
          simp only [↓e_Routes_follow_0, ↓e_Routes_follow_1, ↓e_Routes_follow_2, ↓e_Routes_follow_3, ↓e_Routes_follow_7, ↓e_Routes_follow_9, ↓e_Routes_follow_12, ↓e_Routes_follow_13, ↓e_Routes_follow_14, ↓e_Routes_follow_17, ↓e_Routes_follow_19, ↓e_Routes_follow_20, ↓e_Routes_follow_21, ↓e_Routes_follow_22, ↓e_Routes_follow_23, ↓e_Routes_follow_26, ↓e_Routes_follow_27, ↓e_Routes_follow_28, ↓e_Routes_follow_31, ↓e_Routes_follow_32, ↓e_Routes_follow_35, ↓e_Routes_follow_38, ↓e_Routes_follow_39, ↓e_Routes_follow_40, ↓e_Routes_follow_43, ↓e_Routes_follow_46, ↓e_Routes_follow_48, not_true_eq_false, not_false_eq_true, one0, true_or, or_true, eq_self, bI_z, bI_nz, bI_o, b_ft, bI_1, bI_0, ↓kC_l, ↓kC_r, Option.toList_some, Option.toList_none, List.cons_append, List.nil_append, s1_0, s1_1i, s1_1r, s1_1w, s1_1n, s1_s, s2_0, s2_1i, s2_1r, s2_1w, s2_1n, s2_s, gI_sI, gI_sR, gI_sL, gI_sD, gR_sI, gR_sR, gR_sL, gR_sD, gL_sI, gL_sR, gL_sL, gL_sD, gD_sI, gD_sR, gD_sL, gD_sD, isK_sI, isK_sR, isK_sL, isK_sD, inL_sI, inL_sR, inL_sL, inL_sD, nx_sI, nx_sR, nx_sL, nx_sD, kd_sI, kd_sR, kd_sL, kd_sD, ln_sI, ln_sR, ln_sL, ln_sD, ↓reduceIte, c8_n, c8_1, c8_2, c8_3, c8_4, Nat.reduceAdd, k_s S, k_land S, k_nodes S, k_hear S, k_routes S, k_traffic S, k_market S, g_cnt S, r_land S, r_routes S, r_traffic S, r_market S, r_nodes S, r_hear S, r_rland S, r_tland S, r_troutes S, e8, hne, q_nextOf _ S R ha8 hj8, ha, hj, and_self, er, v3, q_isNode _ S, isNode_ii S hv8, v1, decide_true, ii_succ]
  intro Q
  have e0 : way9 α i j = wy9 α j 8 1 i := rfl
  rw [e0, ← key 8 1 i (by omega) (by omega) hi Q]
  simp only [↓e_Routes_follow_0, ↓e_Routes_follow_1, ↓e_Routes_follow_2, ↓e_Routes_follow_3, ↓e_Routes_follow_7, ↓e_Routes_follow_9, ↓e_Routes_follow_12, ↓e_Routes_follow_13, ↓e_Routes_follow_14, ↓e_Routes_follow_17, ↓e_Routes_follow_19, ↓e_Routes_follow_20, ↓e_Routes_follow_21, ↓e_Routes_follow_22, ↓e_Routes_follow_23, ↓e_Routes_follow_26, ↓e_Routes_follow_27, ↓e_Routes_follow_28, ↓e_Routes_follow_31, ↓e_Routes_follow_32, ↓e_Routes_follow_35, ↓e_Routes_follow_38, ↓e_Routes_follow_39, ↓e_Routes_follow_40, ↓e_Routes_follow_43, ↓e_Routes_follow_46, ↓e_Routes_follow_48, not_true_eq_false, not_false_eq_true, one0, true_or, or_true, eq_self, bI_z, bI_nz, bI_o, b_ft, bI_1, bI_0, ↓kC_l, ↓kC_r, Option.toList_some, Option.toList_none, List.cons_append, List.nil_append, s1_0, s1_1i, s1_1r, s1_1w, s1_1n, s1_s, s2_0, s2_1i, s2_1r, s2_1w, s2_1n, s2_s, gI_sI, gI_sR, gI_sL, gI_sD, gR_sI, gR_sR, gR_sL, gR_sD, gL_sI, gL_sR, gL_sL, gL_sD, gD_sI, gD_sR, gD_sL, gD_sD, isK_sI, isK_sR, isK_sL, isK_sD, inL_sI, inL_sR, inL_sL, inL_sD, nx_sI, nx_sR, nx_sL, nx_sD, kd_sI, kd_sR, kd_sL, kd_sD, ln_sI, ln_sR, ln_sL, ln_sD, ↓reduceIte, c8_n, c8_1, c8_2, c8_3, c8_4, Nat.reduceAdd]
  rfl
theorem ca_wl (V : CA n h α) (S : Str n h) (Rv : Rv9 n α) {i j : Nat} (hi : i < n) (hj : j < n) : ∀ Q, WP Gm j_Routes_wayLength 0 [some (.inr (.inl (some 77))), some (.inl (ii i)), some (.inl (ii j)), none] [] h Q = Q (.inl (some (.inl (rto9 α i j 2)))) h := by
  have hf := ca_follow V S Rv hi hj
  intro Q
  show _ = Q (.inl (some (.inl (if (-1 : Int32) < way9 α i j then way9 α i j else -1)))) h
  rcases wy_val α j 8 1 i with e | e | ⟨L, h1, e⟩
  · have e' : way9 α i j = -1 := e
    rw [e'] at hf ⊢
    rw [if_neg (by decide)]
    simp only [↓e_Routes_wayLength_0, ↓e_Routes_wayLength_1, ↓e_Routes_wayLength_2, ↓e_Routes_wayLength_3, ↓e_Routes_wayLength_6, ↓e_Routes_wayLength_7, ↓e_Routes_wayLength_8, ↓e_Routes_wayLength_10, ↓e_Routes_wayLength_13, ↓e_Routes_wayLength_14, ↓e_Routes_wayLength_17, ↓e_Routes_wayLength_18, not_true_eq_false, not_false_eq_true, one0, true_or, or_true, eq_self, bI_z, bI_nz, bI_o, b_ft, bI_1, bI_0, ↓kC_l, ↓kC_r, Option.toList_some, Option.toList_none, List.cons_append, List.nil_append, s1_0, s1_1i, s1_1r, s1_1w, s1_1n, s1_s, s2_0, s2_1i, s2_1r, s2_1w, s2_1n, s2_s, gI_sI, gI_sR, gI_sL, gI_sD, gR_sI, gR_sR, gR_sL, gR_sD, gL_sI, gL_sR, gL_sL, gL_sD, gD_sI, gD_sR, gD_sL, gD_sD, isK_sI, isK_sR, isK_sL, isK_sD, inL_sI, inL_sR, inL_sL, inL_sD, nx_sI, nx_sR, nx_sL, nx_sD, kd_sI, kd_sR, kd_sL, kd_sD, ln_sI, ln_sR, ln_sL, ln_sD, ↓reduceIte, c8_n, c8_1, c8_2, c8_3, c8_4, Nat.reduceAdd, k_s S, k_land S, k_nodes S, k_hear S, k_routes S, k_traffic S, k_market S, g_cnt S, r_land S, r_routes S, r_traffic S, r_market S, r_nodes S, r_hear S, r_rland S, r_tland S, r_troutes S, hf, (show ¬ (-1 : Int32) = -2 by decide)]
  · have e' : way9 α i j = -2 := e
    rw [e'] at hf ⊢
    rw [if_neg (by decide)]
    simp only [↓e_Routes_wayLength_0, ↓e_Routes_wayLength_1, ↓e_Routes_wayLength_2, ↓e_Routes_wayLength_3, ↓e_Routes_wayLength_6, ↓e_Routes_wayLength_7, ↓e_Routes_wayLength_8, ↓e_Routes_wayLength_10, ↓e_Routes_wayLength_13, ↓e_Routes_wayLength_14, ↓e_Routes_wayLength_17, ↓e_Routes_wayLength_18, not_true_eq_false, not_false_eq_true, one0, true_or, or_true, eq_self, bI_z, bI_nz, bI_o, b_ft, bI_1, bI_0, ↓kC_l, ↓kC_r, Option.toList_some, Option.toList_none, List.cons_append, List.nil_append, s1_0, s1_1i, s1_1r, s1_1w, s1_1n, s1_s, s2_0, s2_1i, s2_1r, s2_1w, s2_1n, s2_s, gI_sI, gI_sR, gI_sL, gI_sD, gR_sI, gR_sR, gR_sL, gR_sD, gL_sI, gL_sR, gL_sL, gL_sD, gD_sI, gD_sR, gD_sL, gD_sD, isK_sI, isK_sR, isK_sL, isK_sD, inL_sI, inL_sR, inL_sL, inL_sD, nx_sI, nx_sR, nx_sL, nx_sD, kd_sI, kd_sR, kd_sL, kd_sD, ln_sI, ln_sR, ln_sL, ln_sD, ↓reduceIte, c8_n, c8_1, c8_2, c8_3, c8_4, Nat.reduceAdd, k_s S, k_land S, k_nodes S, k_hear S, k_routes S, k_traffic S, k_market S, g_cnt S, r_land S, r_routes S, r_traffic S, r_market S, r_nodes S, r_hear S, r_rland S, r_tland S, r_troutes S, hf]
  · have e' : way9 α i j = ii L := e
    rw [e'] at hf ⊢
    have q1 : ∀ L, L ≤ 9 → (-1 : Int32) < ii L := by decide
    have q2 : ∀ L, L ≤ 9 → ¬ ii L = -2 := by decide
    rw [if_pos (q1 L (by omega))]
    simp only [↓e_Routes_wayLength_0, ↓e_Routes_wayLength_1, ↓e_Routes_wayLength_2, ↓e_Routes_wayLength_3, ↓e_Routes_wayLength_6, ↓e_Routes_wayLength_7, ↓e_Routes_wayLength_8, ↓e_Routes_wayLength_10, ↓e_Routes_wayLength_13, ↓e_Routes_wayLength_14, ↓e_Routes_wayLength_17, ↓e_Routes_wayLength_18, not_true_eq_false, not_false_eq_true, one0, true_or, or_true, eq_self, bI_z, bI_nz, bI_o, b_ft, bI_1, bI_0, ↓kC_l, ↓kC_r, Option.toList_some, Option.toList_none, List.cons_append, List.nil_append, s1_0, s1_1i, s1_1r, s1_1w, s1_1n, s1_s, s2_0, s2_1i, s2_1r, s2_1w, s2_1n, s2_s, gI_sI, gI_sR, gI_sL, gI_sD, gR_sI, gR_sR, gR_sL, gR_sD, gL_sI, gL_sR, gL_sL, gL_sD, gD_sI, gD_sR, gD_sL, gD_sD, isK_sI, isK_sR, isK_sL, isK_sD, inL_sI, inL_sR, inL_sL, inL_sD, nx_sI, nx_sR, nx_sL, nx_sD, kd_sI, kd_sR, kd_sL, kd_sD, ln_sI, ln_sR, ln_sL, ln_sD, ↓reduceIte, c8_n, c8_1, c8_2, c8_3, c8_4, Nat.reduceAdd, k_s S, k_land S, k_nodes S, k_hear S, k_routes S, k_traffic S, k_market S, g_cnt S, r_land S, r_routes S, r_traffic S, r_market S, r_nodes S, r_hear S, r_rland S, r_tland S, r_troutes S, hf, q2 L (by omega)]
theorem ca_hc (V : CA n h α) (S : Str n h) (Rv : Rv9 n α) {i j : Nat} (hi : i < n) (hj : j < n) : ∀ Q, WP Gm j_Routes_hasCircle 0 [some (.inr (.inl (some 77))), some (.inl (ii i)), some (.inl (ii j))] [] h Q = Q (.inl (some (.inl (bI (decide (way9 α i j = -2)))))) h := by
  have hf := ca_follow V S Rv hi hj
  intro Q
  by_cases h2 : way9 α i j = -2
  · rw [decide_eq_true h2]
    simp only [↓e_Routes_hasCircle_0, ↓e_Routes_hasCircle_1, ↓e_Routes_hasCircle_2, ↓e_Routes_hasCircle_3, ↓e_Routes_hasCircle_6, ↓e_Routes_hasCircle_8, ↓e_Routes_hasCircle_11, ↓e_Routes_hasCircle_12, ↓e_Routes_hasCircle_15, ↓e_Routes_hasCircle_16, not_true_eq_false, not_false_eq_true, one0, true_or, or_true, eq_self, bI_z, bI_nz, bI_o, b_ft, bI_1, bI_0, ↓kC_l, ↓kC_r, Option.toList_some, Option.toList_none, List.cons_append, List.nil_append, s1_0, s1_1i, s1_1r, s1_1w, s1_1n, s1_s, s2_0, s2_1i, s2_1r, s2_1w, s2_1n, s2_s, gI_sI, gI_sR, gI_sL, gI_sD, gR_sI, gR_sR, gR_sL, gR_sD, gL_sI, gL_sR, gL_sL, gL_sD, gD_sI, gD_sR, gD_sL, gD_sD, isK_sI, isK_sR, isK_sL, isK_sD, inL_sI, inL_sR, inL_sL, inL_sD, nx_sI, nx_sR, nx_sL, nx_sD, kd_sI, kd_sR, kd_sL, kd_sD, ln_sI, ln_sR, ln_sL, ln_sD, ↓reduceIte, c8_n, c8_1, c8_2, c8_3, c8_4, Nat.reduceAdd, k_s S, k_land S, k_nodes S, k_hear S, k_routes S, k_traffic S, k_market S, g_cnt S, r_land S, r_routes S, r_traffic S, r_market S, r_nodes S, r_hear S, r_rland S, r_tland S, r_troutes S, hf, h2]
  · rw [decide_eq_false h2]
    simp only [↓e_Routes_hasCircle_0, ↓e_Routes_hasCircle_1, ↓e_Routes_hasCircle_2, ↓e_Routes_hasCircle_3, ↓e_Routes_hasCircle_6, ↓e_Routes_hasCircle_8, ↓e_Routes_hasCircle_11, ↓e_Routes_hasCircle_12, ↓e_Routes_hasCircle_15, ↓e_Routes_hasCircle_16, not_true_eq_false, not_false_eq_true, one0, true_or, or_true, eq_self, bI_z, bI_nz, bI_o, b_ft, bI_1, bI_0, ↓kC_l, ↓kC_r, Option.toList_some, Option.toList_none, List.cons_append, List.nil_append, s1_0, s1_1i, s1_1r, s1_1w, s1_1n, s1_s, s2_0, s2_1i, s2_1r, s2_1w, s2_1n, s2_s, gI_sI, gI_sR, gI_sL, gI_sD, gR_sI, gR_sR, gR_sL, gR_sD, gL_sI, gL_sR, gL_sL, gL_sD, gD_sI, gD_sR, gD_sL, gD_sD, isK_sI, isK_sR, isK_sL, isK_sD, inL_sI, inL_sR, inL_sL, inL_sD, nx_sI, nx_sR, nx_sL, nx_sD, kd_sI, kd_sR, kd_sL, kd_sD, ln_sI, ln_sR, ln_sL, ln_sD, ↓reduceIte, c8_n, c8_1, c8_2, c8_3, c8_4, Nat.reduceAdd, k_s S, k_land S, k_nodes S, k_hear S, k_routes S, k_traffic S, k_market S, g_cnt S, r_land S, r_routes S, r_traffic S, r_market S, r_nodes S, r_hear S, r_rland S, r_tland S, r_troutes S, hf, h2]
theorem ca_rt (V : CA n h α) (S : Str n h) (Rv : Rv9 n α) {i j w : Nat} (hi : i < n) (hj : j < n) (hij : i ≠ j) (hw : w ≤ 3) : ∀ Q, WP Gm j_S_route 0 [some (.inr (.inl (some 1))), some (.inl (ii i)), some (.inl (ii j)), some (.inl (ii w))] [] h Q = Q (.inl (some (.inl (rto9 α i j w)))) h := by
  have hn := n8 S
  have hi8 : i < 8 := by omega
  have hj8 : j < 8 := by omega
  obtain ⟨c, R, wv, -⟩ := V.2.2.2.2.2.2.1
  obtain ⟨ec, er⟩ := wv i hi j hj8
  intro Q
  have : w = 0 ∨ w = 1 ∨ w = 2 ∨ w = 3 := by omega
  rcases this with rfl | rfl | rfl | rfl
  · rw [show ii 0 = 0 from rfl]
    simp only [↓e_S_route_0, ↓e_S_route_1, ↓e_S_route_2, ↓e_S_route_3, ↓e_S_route_6, ↓e_S_route_7c0, ↓e_S_route_7c1, ↓e_S_route_7c2, ↓e_S_route_7c3, ↓e_S_route_36, ↓e_S_route_37, ↓e_S_route_40, ↓e_S_route_41, ↓e_S_route_42, ↓e_S_route_45, ↓e_S_route_46, ↓e_S_route_47, ↓e_S_route_50, ↓e_S_route_51, ↓e_S_route_52, ↓e_S_route_55, ↓e_S_route_56, ↓e_S_route_57, ↓e_S_route_60, ↓e_S_route_61, ↓e_S_route_62, ↓e_S_route_65, ↓e_S_route_66, ↓e_S_route_67, ↓e_S_route_70, ↓e_S_route_71, ↓e_S_route_72, ↓e_S_route_75, ↓e_S_route_78, ↓e_S_route_79, ↓e_S_route_82, ↓e_S_route_83, ↓e_S_route_84, not_true_eq_false, not_false_eq_true, one0, true_or, or_true, eq_self, bI_z, bI_nz, bI_o, b_ft, bI_1, bI_0, ↓kC_l, ↓kC_r, Option.toList_some, Option.toList_none, List.cons_append, List.nil_append, s1_0, s1_1i, s1_1r, s1_1w, s1_1n, s1_s, s2_0, s2_1i, s2_1r, s2_1w, s2_1n, s2_s, gI_sI, gI_sR, gI_sL, gI_sD, gR_sI, gR_sR, gR_sL, gR_sD, gL_sI, gL_sR, gL_sL, gL_sD, gD_sI, gD_sR, gD_sL, gD_sD, isK_sI, isK_sR, isK_sL, isK_sD, inL_sI, inL_sR, inL_sL, inL_sD, nx_sI, nx_sR, nx_sL, nx_sD, kd_sI, kd_sR, kd_sL, kd_sD, ln_sI, ln_sR, ln_sL, ln_sD, ↓reduceIte, c8_n, c8_1, c8_2, c8_3, c8_4, Nat.reduceAdd, k_s S, k_land S, k_nodes S, k_hear S, k_routes S, k_traffic S, k_market S, g_cnt S, r_land S, r_routes S, r_traffic S, r_market S, r_nodes S, r_hear S, r_rland S, r_tland S, r_troutes S, q_checkPair _ S hi hj hij, q_costOf _ S R hi8 hj8, hi, hj, and_self, ec]
    rfl
  · rw [show ii 1 = 1 from rfl]
    simp only [↓e_S_route_0, ↓e_S_route_1, ↓e_S_route_2, ↓e_S_route_3, ↓e_S_route_6, ↓e_S_route_7c0, ↓e_S_route_7c1, ↓e_S_route_7c2, ↓e_S_route_7c3, ↓e_S_route_36, ↓e_S_route_37, ↓e_S_route_40, ↓e_S_route_41, ↓e_S_route_42, ↓e_S_route_45, ↓e_S_route_46, ↓e_S_route_47, ↓e_S_route_50, ↓e_S_route_51, ↓e_S_route_52, ↓e_S_route_55, ↓e_S_route_56, ↓e_S_route_57, ↓e_S_route_60, ↓e_S_route_61, ↓e_S_route_62, ↓e_S_route_65, ↓e_S_route_66, ↓e_S_route_67, ↓e_S_route_70, ↓e_S_route_71, ↓e_S_route_72, ↓e_S_route_75, ↓e_S_route_78, ↓e_S_route_79, ↓e_S_route_82, ↓e_S_route_83, ↓e_S_route_84, not_true_eq_false, not_false_eq_true, one0, true_or, or_true, eq_self, bI_z, bI_nz, bI_o, b_ft, bI_1, bI_0, ↓kC_l, ↓kC_r, Option.toList_some, Option.toList_none, List.cons_append, List.nil_append, s1_0, s1_1i, s1_1r, s1_1w, s1_1n, s1_s, s2_0, s2_1i, s2_1r, s2_1w, s2_1n, s2_s, gI_sI, gI_sR, gI_sL, gI_sD, gR_sI, gR_sR, gR_sL, gR_sD, gL_sI, gL_sR, gL_sL, gL_sD, gD_sI, gD_sR, gD_sL, gD_sD, isK_sI, isK_sR, isK_sL, isK_sD, inL_sI, inL_sR, inL_sL, inL_sD, nx_sI, nx_sR, nx_sL, nx_sD, kd_sI, kd_sR, kd_sL, kd_sD, ln_sI, ln_sR, ln_sL, ln_sD, ↓reduceIte, c8_n, c8_1, c8_2, c8_3, c8_4, Nat.reduceAdd, k_s S, k_land S, k_nodes S, k_hear S, k_routes S, k_traffic S, k_market S, g_cnt S, r_land S, r_routes S, r_traffic S, r_market S, r_nodes S, r_hear S, r_rland S, r_tland S, r_troutes S, q_checkPair _ S hi hj hij, q_nextOf _ S R hi8 hj8, hi, hj, and_self, er]
    rfl
  · rw [show ii 2 = 2 from rfl]
    simp only [↓e_S_route_0, ↓e_S_route_1, ↓e_S_route_2, ↓e_S_route_3, ↓e_S_route_6, ↓e_S_route_7c0, ↓e_S_route_7c1, ↓e_S_route_7c2, ↓e_S_route_7c3, ↓e_S_route_36, ↓e_S_route_37, ↓e_S_route_40, ↓e_S_route_41, ↓e_S_route_42, ↓e_S_route_45, ↓e_S_route_46, ↓e_S_route_47, ↓e_S_route_50, ↓e_S_route_51, ↓e_S_route_52, ↓e_S_route_55, ↓e_S_route_56, ↓e_S_route_57, ↓e_S_route_60, ↓e_S_route_61, ↓e_S_route_62, ↓e_S_route_65, ↓e_S_route_66, ↓e_S_route_67, ↓e_S_route_70, ↓e_S_route_71, ↓e_S_route_72, ↓e_S_route_75, ↓e_S_route_78, ↓e_S_route_79, ↓e_S_route_82, ↓e_S_route_83, ↓e_S_route_84, not_true_eq_false, not_false_eq_true, one0, true_or, or_true, eq_self, bI_z, bI_nz, bI_o, b_ft, bI_1, bI_0, ↓kC_l, ↓kC_r, Option.toList_some, Option.toList_none, List.cons_append, List.nil_append, s1_0, s1_1i, s1_1r, s1_1w, s1_1n, s1_s, s2_0, s2_1i, s2_1r, s2_1w, s2_1n, s2_s, gI_sI, gI_sR, gI_sL, gI_sD, gR_sI, gR_sR, gR_sL, gR_sD, gL_sI, gL_sR, gL_sL, gL_sD, gD_sI, gD_sR, gD_sL, gD_sD, isK_sI, isK_sR, isK_sL, isK_sD, inL_sI, inL_sR, inL_sL, inL_sD, nx_sI, nx_sR, nx_sL, nx_sD, kd_sI, kd_sR, kd_sL, kd_sD, ln_sI, ln_sR, ln_sL, ln_sD, ↓reduceIte, c8_n, c8_1, c8_2, c8_3, c8_4, Nat.reduceAdd, k_s S, k_land S, k_nodes S, k_hear S, k_routes S, k_traffic S, k_market S, g_cnt S, r_land S, r_routes S, r_traffic S, r_market S, r_nodes S, r_hear S, r_rland S, r_tland S, r_troutes S, q_checkPair _ S hi hj hij, ca_wl V S Rv hi hj]
  · rw [show ii 3 = 3 from rfl]
    have e3 : rto9 α i j 3 = bI (decide (way9 α i j = -2)) := rfl
    rw [e3]
    simp only [↓e_S_route_0, ↓e_S_route_1, ↓e_S_route_2, ↓e_S_route_3, ↓e_S_route_6, ↓e_S_route_7c0, ↓e_S_route_7c1, ↓e_S_route_7c2, ↓e_S_route_7c3, ↓e_S_route_36, ↓e_S_route_37, ↓e_S_route_40, ↓e_S_route_41, ↓e_S_route_42, ↓e_S_route_45, ↓e_S_route_46, ↓e_S_route_47, ↓e_S_route_50, ↓e_S_route_51, ↓e_S_route_52, ↓e_S_route_55, ↓e_S_route_56, ↓e_S_route_57, ↓e_S_route_60, ↓e_S_route_61, ↓e_S_route_62, ↓e_S_route_65, ↓e_S_route_66, ↓e_S_route_67, ↓e_S_route_70, ↓e_S_route_71, ↓e_S_route_72, ↓e_S_route_75, ↓e_S_route_78, ↓e_S_route_79, ↓e_S_route_82, ↓e_S_route_83, ↓e_S_route_84, not_true_eq_false, not_false_eq_true, one0, true_or, or_true, eq_self, bI_z, bI_nz, bI_o, b_ft, bI_1, bI_0, ↓kC_l, ↓kC_r, Option.toList_some, Option.toList_none, List.cons_append, List.nil_append, s1_0, s1_1i, s1_1r, s1_1w, s1_1n, s1_s, s2_0, s2_1i, s2_1r, s2_1w, s2_1n, s2_s, gI_sI, gI_sR, gI_sL, gI_sD, gR_sI, gR_sR, gR_sL, gR_sD, gL_sI, gL_sR, gL_sL, gL_sD, gD_sI, gD_sR, gD_sL, gD_sD, isK_sI, isK_sR, isK_sL, isK_sD, inL_sI, inL_sR, inL_sL, inL_sD, nx_sI, nx_sR, nx_sL, nx_sD, kd_sI, kd_sR, kd_sL, kd_sD, ln_sI, ln_sR, ln_sL, ln_sD, ↓reduceIte, c8_n, c8_1, c8_2, c8_3, c8_4, Nat.reduceAdd, k_s S, k_land S, k_nodes S, k_hear S, k_routes S, k_traffic S, k_market S, g_cnt S, r_land S, r_routes S, r_traffic S, r_market S, r_nodes S, r_hear S, r_rland S, r_tland S, r_troutes S, q_checkPair _ S hi hj hij, ca_hc V S Rv hi hj]
    cases decide (way9 α i j = -2) <;> rfl
theorem vx_route (A : AI n h) (V : CA n h α) (hr : okR cM sM h 1 6 = true) (x y z : Int32) : ∃ rs h', (∀ Q, WP Gm j_S_route 0 [some (.inr (.inl (some 1))), some (.inl x), some (.inl y), some (.inl z)] [] h Q = Q rs h') ∧ vr9 mA9 rs (rou9 n α x y z) ∧ CA n h' (rou9 n α x y z).2.2 := by
  have S := A.1
  have hn := n8 S
  have Rv := ai_rv A V
  unfold rou9
  cases hb : isN n x with
  | false =>
    rw [Bool.false_and, if_pos rfl]
    refine ⟨.inr 2, _, fun Q => ?_, Or.inr ⟨2, by omega, rfl, rfl⟩, V.ex S (Ex.hN h kc_IndexOutOfBoundsException 0 6)⟩
    simp only [↓e_S_route_0, ↓e_S_route_1, ↓e_S_route_2, ↓e_S_route_3, ↓e_S_route_6, ↓e_S_route_7c0, ↓e_S_route_7c1, ↓e_S_route_7c2, ↓e_S_route_7c3, ↓e_S_route_36, ↓e_S_route_37, ↓e_S_route_40, ↓e_S_route_41, ↓e_S_route_42, ↓e_S_route_45, ↓e_S_route_46, ↓e_S_route_47, ↓e_S_route_50, ↓e_S_route_51, ↓e_S_route_52, ↓e_S_route_55, ↓e_S_route_56, ↓e_S_route_57, ↓e_S_route_60, ↓e_S_route_61, ↓e_S_route_62, ↓e_S_route_65, ↓e_S_route_66, ↓e_S_route_67, ↓e_S_route_70, ↓e_S_route_71, ↓e_S_route_72, ↓e_S_route_75, ↓e_S_route_78, ↓e_S_route_79, ↓e_S_route_82, ↓e_S_route_83, ↓e_S_route_84, ↓e_S_checkPair_0, ↓e_S_checkPair_1, ↓e_S_checkPair_2, ↓e_S_checkPair_5, ↓e_S_checkPair_6, ↓e_S_checkPair_7, ↓e_S_checkPair_10, ↓e_S_checkPair_11, ↓e_S_checkPair_12, ↓e_S_checkPair_15, ↓e_S_checkPair_26, not_true_eq_false, not_false_eq_true, one0, true_or, or_true, eq_self, bI_z, bI_nz, bI_o, b_ft, bI_1, bI_0, ↓kC_l, ↓kC_r, Option.toList_some, Option.toList_none, List.cons_append, List.nil_append, s1_0, s1_1i, s1_1r, s1_1w, s1_1n, s1_s, s2_0, s2_1i, s2_1r, s2_1w, s2_1n, s2_s, gI_sI, gI_sR, gI_sL, gI_sD, gR_sI, gR_sR, gR_sL, gR_sD, gL_sI, gL_sR, gL_sL, gL_sD, gD_sI, gD_sR, gD_sL, gD_sD, isK_sI, isK_sR, isK_sL, isK_sD, inL_sI, inL_sR, inL_sL, inL_sD, nx_sI, nx_sR, nx_sL, nx_sD, kd_sI, kd_sR, kd_sL, kd_sD, ln_sI, ln_sR, ln_sL, ln_sD, ↓reduceIte, c8_n, c8_1, c8_2, c8_3, c8_4, Nat.reduceAdd, k_s S, k_land S, k_nodes S, k_hear S, k_routes S, k_traffic S, k_market S, g_cnt S, r_land S, r_routes S, r_traffic S, r_market S, r_nodes S, r_hear S, r_rland S, r_tland S, r_troutes S, c_no9 S hr hb]
  | true =>
    obtain ⟨i, hi, rfl⟩ := isN_ex hn hb
    cases hb2 : isN n y with
    | false =>
      rw [Bool.and_false, if_pos rfl]
      refine ⟨.inr 2, _, fun Q => ?_, Or.inr ⟨2, by omega, rfl, rfl⟩, V.ex S (Ex.hN h kc_IndexOutOfBoundsException 0 6)⟩
      simp only [↓e_S_route_0, ↓e_S_route_1, ↓e_S_route_2, ↓e_S_route_3, ↓e_S_route_6, ↓e_S_route_7c0, ↓e_S_route_7c1, ↓e_S_route_7c2, ↓e_S_route_7c3, ↓e_S_route_36, ↓e_S_route_37, ↓e_S_route_40, ↓e_S_route_41, ↓e_S_route_42, ↓e_S_route_45, ↓e_S_route_46, ↓e_S_route_47, ↓e_S_route_50, ↓e_S_route_51, ↓e_S_route_52, ↓e_S_route_55, ↓e_S_route_56, ↓e_S_route_57, ↓e_S_route_60, ↓e_S_route_61, ↓e_S_route_62, ↓e_S_route_65, ↓e_S_route_66, ↓e_S_route_67, ↓e_S_route_70, ↓e_S_route_71, ↓e_S_route_72, ↓e_S_route_75, ↓e_S_route_78, ↓e_S_route_79, ↓e_S_route_82, ↓e_S_route_83, ↓e_S_route_84, ↓e_S_checkPair_0, ↓e_S_checkPair_1, ↓e_S_checkPair_2, ↓e_S_checkPair_5, ↓e_S_checkPair_6, ↓e_S_checkPair_7, ↓e_S_checkPair_10, ↓e_S_checkPair_11, ↓e_S_checkPair_12, ↓e_S_checkPair_15, ↓e_S_checkPair_26, not_true_eq_false, not_false_eq_true, one0, true_or, or_true, eq_self, bI_z, bI_nz, bI_o, b_ft, bI_1, bI_0, ↓kC_l, ↓kC_r, Option.toList_some, Option.toList_none, List.cons_append, List.nil_append, s1_0, s1_1i, s1_1r, s1_1w, s1_1n, s1_s, s2_0, s2_1i, s2_1r, s2_1w, s2_1n, s2_s, gI_sI, gI_sR, gI_sL, gI_sD, gR_sI, gR_sR, gR_sL, gR_sD, gL_sI, gL_sR, gL_sL, gL_sD, gD_sI, gD_sR, gD_sL, gD_sD, isK_sI, isK_sR, isK_sL, isK_sD, inL_sI, inL_sR, inL_sL, inL_sD, nx_sI, nx_sR, nx_sL, nx_sD, kd_sI, kd_sR, kd_sL, kd_sD, ln_sI, ln_sR, ln_sL, ln_sD, ↓reduceIte, c8_n, c8_1, c8_2, c8_3, c8_4, Nat.reduceAdd, k_s S, k_land S, k_nodes S, k_hear S, k_routes S, k_traffic S, k_market S, g_cnt S, r_land S, r_routes S, r_traffic S, r_market S, r_nodes S, r_hear S, r_rland S, r_tland S, r_troutes S, q_checkNode _ S hi, c_no9 S hr hb2]
    | true =>
      obtain ⟨j, hj, rfl⟩ := isN_ex hn hb2
      rw [if_neg (by decide), tn_ii (show i < 2147483648 by omega), tn_ii (show j < 2147483648 by omega)]
      have eij : (ii i = ii j) = (i = j) := ii_inj (by omega) (by omega)
      by_cases hij : i = j
      · rw [decide_eq_true (by rw [hij]), if_pos (by rfl)]
        refine ⟨.inr 0, _, fun Q => ?_, Or.inr ⟨0, by omega, rfl, rfl⟩, V.ex S (Ex.hN h kc_IllegalArgumentException 0 6)⟩
        subst hij
        simp only [↓e_S_route_0, ↓e_S_route_1, ↓e_S_route_2, ↓e_S_route_3, ↓e_S_route_6, ↓e_S_route_7c0, ↓e_S_route_7c1, ↓e_S_route_7c2, ↓e_S_route_7c3, ↓e_S_route_36, ↓e_S_route_37, ↓e_S_route_40, ↓e_S_route_41, ↓e_S_route_42, ↓e_S_route_45, ↓e_S_route_46, ↓e_S_route_47, ↓e_S_route_50, ↓e_S_route_51, ↓e_S_route_52, ↓e_S_route_55, ↓e_S_route_56, ↓e_S_route_57, ↓e_S_route_60, ↓e_S_route_61, ↓e_S_route_62, ↓e_S_route_65, ↓e_S_route_66, ↓e_S_route_67, ↓e_S_route_70, ↓e_S_route_71, ↓e_S_route_72, ↓e_S_route_75, ↓e_S_route_78, ↓e_S_route_79, ↓e_S_route_82, ↓e_S_route_83, ↓e_S_route_84, ↓e_S_checkPair_0, ↓e_S_checkPair_1, ↓e_S_checkPair_2, ↓e_S_checkPair_5, ↓e_S_checkPair_6, ↓e_S_checkPair_7, ↓e_S_checkPair_10, ↓e_S_checkPair_11, ↓e_S_checkPair_12, ↓e_S_checkPair_15, ↓e_S_checkPair_26, not_true_eq_false, not_false_eq_true, one0, true_or, or_true, eq_self, bI_z, bI_nz, bI_o, b_ft, bI_1, bI_0, ↓kC_l, ↓kC_r, Option.toList_some, Option.toList_none, List.cons_append, List.nil_append, s1_0, s1_1i, s1_1r, s1_1w, s1_1n, s1_s, s2_0, s2_1i, s2_1r, s2_1w, s2_1n, s2_s, gI_sI, gI_sR, gI_sL, gI_sD, gR_sI, gR_sR, gR_sL, gR_sD, gL_sI, gL_sR, gL_sL, gL_sD, gD_sI, gD_sR, gD_sL, gD_sD, isK_sI, isK_sR, isK_sL, isK_sD, inL_sI, inL_sR, inL_sL, inL_sD, nx_sI, nx_sR, nx_sL, nx_sD, kd_sI, kd_sR, kd_sL, kd_sD, ln_sI, ln_sR, ln_sL, ln_sD, ↓reduceIte, c8_n, c8_1, c8_2, c8_3, c8_4, Nat.reduceAdd, k_s S, k_land S, k_nodes S, k_hear S, k_routes S, k_traffic S, k_market S, g_cnt S, r_land S, r_routes S, r_traffic S, r_market S, r_nodes S, r_hear S, r_rland S, r_tland S, r_troutes S, q_checkNode _ S hi, hr]
      · rw [decide_eq_false (show ¬ ii i = ii j by rw [eij]; exact hij)]
        cases e1 : (decide (0 ≤ z) && decide (z ≤ 3)) with
        | false =>
          rw [if_pos (by rfl)]
          have ts : tsw 0 [36, 46, 56, 66] 84 z = 84 := tsw_out (m := 3) rfl (by omega) e1
          refine ⟨.inr 0, _, fun Q => ?_, Or.inr ⟨0, by omega, rfl, rfl⟩, V.ex S (Ex.hN h kc_IllegalArgumentException 0 6)⟩
          simp only [↓e_S_route_0, ↓e_S_route_1, ↓e_S_route_2, ↓e_S_route_3, ↓e_S_route_6, ↓e_S_route_7c0, ↓e_S_route_7c1, ↓e_S_route_7c2, ↓e_S_route_7c3, ↓e_S_route_36, ↓e_S_route_37, ↓e_S_route_40, ↓e_S_route_41, ↓e_S_route_42, ↓e_S_route_45, ↓e_S_route_46, ↓e_S_route_47, ↓e_S_route_50, ↓e_S_route_51, ↓e_S_route_52, ↓e_S_route_55, ↓e_S_route_56, ↓e_S_route_57, ↓e_S_route_60, ↓e_S_route_61, ↓e_S_route_62, ↓e_S_route_65, ↓e_S_route_66, ↓e_S_route_67, ↓e_S_route_70, ↓e_S_route_71, ↓e_S_route_72, ↓e_S_route_75, ↓e_S_route_78, ↓e_S_route_79, ↓e_S_route_82, ↓e_S_route_83, ↓e_S_route_84, not_true_eq_false, not_false_eq_true, one0, true_or, or_true, eq_self, bI_z, bI_nz, bI_o, b_ft, bI_1, bI_0, ↓kC_l, ↓kC_r, Option.toList_some, Option.toList_none, List.cons_append, List.nil_append, s1_0, s1_1i, s1_1r, s1_1w, s1_1n, s1_s, s2_0, s2_1i, s2_1r, s2_1w, s2_1n, s2_s, gI_sI, gI_sR, gI_sL, gI_sD, gR_sI, gR_sR, gR_sL, gR_sD, gL_sI, gL_sR, gL_sL, gL_sD, gD_sI, gD_sR, gD_sL, gD_sD, isK_sI, isK_sR, isK_sL, isK_sD, inL_sI, inL_sR, inL_sL, inL_sD, nx_sI, nx_sR, nx_sL, nx_sD, kd_sI, kd_sR, kd_sL, kd_sD, ln_sI, ln_sR, ln_sL, ln_sD, ↓reduceIte, c8_n, c8_1, c8_2, c8_3, c8_4, Nat.reduceAdd, k_s S, k_land S, k_nodes S, k_hear S, k_routes S, k_traffic S, k_market S, g_cnt S, r_land S, r_routes S, r_traffic S, r_market S, r_nodes S, r_hear S, r_rland S, r_tland S, r_troutes S, q_checkPair _ S hi hj hij, e_S_route_7, ts, hr]
        | true =>
          obtain ⟨w, w1, rfl⟩ := i32_cases (b := 3) (by omega) e1
          rw [if_neg (by decide), tn_ii (show w < 2147483648 by omega)]
          exact ⟨_, h, ca_rt V S Rv hi hj hij w1, Or.inl ⟨rfl, rfl⟩, V⟩
end RQ3
