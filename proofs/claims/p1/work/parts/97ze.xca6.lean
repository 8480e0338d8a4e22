/-! xca6: the country's exchange in values -/
def chp9 (α : As) (a b k : Nat) (o : Option Nat) : Option Nat := if (!decide (α.1 (70 + k) b = -1) && (!decide (α.1 (70 + k) b = ii a) && (hr9 α k a && hr9 α a k))) = true then (match o with | none => some k | some m => if α.1 (60 + k) b < α.1 (60 + m) b then some k else o) else o
def chq9 (n : Nat) (α : As) (a b : Nat) : Option Nat := upto (chp9 α a b) n 0 none
/-- costs and routes are as they must be -/
def Rv9 (n : Nat) (α : As) : Prop := ∀ i j, i < n → j < 8 → (α.1 (70 + i) j = -1 ∧ α.1 (60 + i) j = -1) ∨ ∃ r d, r < n ∧ r ≠ i ∧ α.1 (70 + i) j = ii r ∧ 1 ≤ d ∧ d ≤ 8 ∧ α.1 (60 + i) j = ii d
def cq9 (o : Option Nat) : Int32 := match o with | none => -1 | some b => ii b
/-- the reference's best and the country's best -/
def Bq9 (α : As) (b : Nat) (o : Option Nat) (x : Int32 × Int32) : Prop := match o with
  | none => x = (-1, 9)
  | some m => ∃ d, 1 ≤ d ∧ d ≤ 8 ∧ α.1 (60 + m) b = ii d ∧ x = if d ≤ 7 then (ii m, ii (d + 1)) else (-1, 9)
section XC6
variable {n c : Nat} {h h' : Hp} {α β : As}
theorem bq_step (hn : n ≤ 8) (R : Rv9 n α) {a b k : Nat} (ha : a < n) (hb : b < n) (hbb : α.1 (70 + b) b = -1) (hk : k < n) {o : Option Nat} {x : Int32 × Int32} (H : Bq9 α b o x) : Bq9 α b (chp9 α a b k o) (exs9 α a b k x) := by
  have hx2 : ¬ x.2 ≤ 1 := by
    cases o with
    | none =>
      have e : x = (-1, 9) := H
      rw [e]; decide
    | some m =>
      obtain ⟨d, d1, d2, d3, d4⟩ := H
      rw [d4]
      by_cases e : d ≤ 7
      · rw [if_pos e]
        show ¬ ii (d + 1) ≤ ii 1
        rw [ii_le (by omega) (by omega)]; omega
      · rw [if_neg e]; decide
  unfold chp9 exs9
  rw [if_neg hx2, Bool.and_comm (hr9 α k a)]
  rcases R k b hk (by omega) with ⟨r1, r2⟩ | ⟨r, d, r1, r2, r3, d1, d2, d3⟩
  · have e0 : (!decide (α.1 (70 + k) b = -1)) = false := by rw [decide_eq_true r1]; rfl
    rw [e0, Bool.false_and, if_neg (by decide)]
    have : (if k = b then x else if (hr9 α a k && hr9 α k a) = false then x else if α.1 (60 + k) b = -1 then x else if α.1 (70 + k) b = ii a then x else if α.1 (60 + k) b + 1 < x.2 then (ii k, α.1 (60 + k) b + 1) else x) = x := by
      rw [if_pos r2]
      split
      · rfl
      · split <;> rfl
    rw [this]
    exact H
  · have hkb : ¬ k = b := fun e => by
      subst e
      rw [r3] at hbb
      exact ii_m1 (show r < 2147483648 by omega) hbb
    have e0 : (!decide (α.1 (70 + k) b = -1)) = true := by
      rw [decide_eq_false (by rw [r3]; exact ii_m1 (by omega))]; rfl
    have e1 : ¬ α.1 (60 + k) b = -1 := by rw [d3]; exact ii_m1 (by omega)
    rw [e0, Bool.true_and, if_neg hkb, if_neg e1]
    cases hl : (hr9 α a k && hr9 α k a) with
    | false =>
      rw [Bool.and_false, if_neg (by decide), if_pos rfl]
      exact H
    | true =>
      rw [Bool.and_true, if_neg (show ¬ true = false by decide)]
      by_cases h5 : α.1 (70 + k) b = ii a
      · rw [decide_eq_true h5, if_neg (by decide), if_pos h5]
        exact H
      · rw [decide_eq_false h5, if_pos (by decide), if_neg h5, d3, ii_succ]
        cases o with
        | none =>
          have e : x = (-1, 9) := H
          subst e
          show ∃ d', 1 ≤ d' ∧ d' ≤ 8 ∧ α.1 (60 + k) b = ii d' ∧ _
          refine ⟨d, d1, d2, d3, ?_⟩
          have q : (ii (d + 1) < (9 : Int32)) = (d + 1 < 9) := ii_lt (j := 9) (by omega) (by omega)
          dsimp only
          by_cases e7 : d ≤ 7
          · rw [if_pos (by rw [q]; omega), if_pos e7]
          · rw [if_neg (by rw [q]; omega), if_neg e7]
        | some m =>
          obtain ⟨d0, p1, p2, p3, p4⟩ := H
          dsimp only
          have q : (ii d < ii d0) = (d < d0) := ii_lt (by omega) (by omega)
          rw [p3]
          by_cases hlt : d < d0
          · rw [if_pos (by rw [q]; exact hlt)]
            show ∃ d', 1 ≤ d' ∧ d' ≤ 8 ∧ α.1 (60 + k) b = ii d' ∧ _
            refine ⟨d, d1, d2, d3, ?_⟩
            rw [if_pos (show d ≤ 7 by omega), if_pos]
            rw [p4]
            by_cases e7 : d0 ≤ 7
            · rw [if_pos e7]
              show ii (d + 1) < ii (d0 + 1)
              rw [ii_lt (by omega) (by omega)]; omega
            · rw [if_neg e7]
              show ii (d + 1) < ii 9
              rw [ii_lt (by omega) (by omega)]; omega
          · rw [if_neg (by rw [q]; exact hlt)]
            show ∃ d', 1 ≤ d' ∧ d' ≤ 8 ∧ α.1 (60 + m) b = ii d' ∧ _
            refine ⟨d0, p1, p2, p3, ?_⟩
            rw [if_neg]
            · exact p4
            · rw [p4]
              by_cases e7 : d0 ≤ 7
              · rw [if_pos e7]
                show ¬ ii (d + 1) < ii (d0 + 1)
                rw [ii_lt (by omega) (by omega)]; omega
              · rw [if_neg e7]
                show ¬ ii (d + 1) < ii 9
                rw [ii_lt (by omega) (by omega)]; omega
theorem bq_all (hn : n ≤ 8) (R : Rv9 n α) {a b : Nat} (ha : a < n) (hb : b < n) (hbb : α.1 (70 + b) b = -1) : ∀ k, k ≤ n → Bq9 α b (upto (chp9 α a b) k 0 none) (upto (exs9 α a b) k 0 (-1, 9))
  | 0, _ => rfl
  | k + 1, hk => by
    rw [upto_end, upto_end, Nat.zero_add]
    exact bq_step hn R ha hb hbb (by omega) (bq_all hn R ha hb hbb k (by omega))
theorem chq_lt (n : Nat) (α : As) (a b : Nat) : ∀ k, ∀ m, upto (chp9 α a b) k 0 none = some m → m < k ∧ ¬ α.1 (70 + m) b = -1
  | 0, m, h => by cases h
  | k + 1, m, h => by
    rw [upto_end, Nat.zero_add] at h
    have ih := chq_lt n α a b k
    generalize upto (chp9 α a b) k 0 none = o at *
    unfold chp9 at h
    by_cases e : (!decide (α.1 (70 + k) b = -1) && (!decide (α.1 (70 + k) b = ii a) && (hr9 α k a && hr9 α a k))) = true
    · rw [if_pos e] at h
      rw [Bool.and_eq_true, Bool.not_eq_true', decide_eq_false_iff_not] at e
      cases o with
      | none =>
        dsimp only at h
        cases h
        exact ⟨by omega, e.1⟩
      | some m' =>
        dsimp only at h
        split at h
        · cases h; exact ⟨by omega, e.1⟩
        · obtain ⟨q1, q2⟩ := ih m h
          exact ⟨by omega, q2⟩
    · rw [if_neg e] at h
      obtain ⟨q1, q2⟩ := ih m h
      exact ⟨by omega, q2⟩
/-- what is exchanged, as the country finds it -/
theorem exq_c (hn : n ≤ 8) (R : Rv9 n α) {a b : Nat} (ha : a < n) (hb : b < n) (hbb : α.1 (70 + b) b = -1) :
    ((hr9 α a b && hr9 α b a) = true → (exq9 n α a b).1 = ii b ∧ exv9 n α a b = 1) ∧
    ((hr9 α a b && hr9 α b a) = false → (chq9 n α a b = none → (exq9 n α a b).1 = -1 ∧ exv9 n α a b = -1) ∧ ∀ m, chq9 n α a b = some m → ∃ d, 1 ≤ d ∧ d ≤ 8 ∧ α.1 (60 + m) b = ii d ∧ ((8 < d + 1 → (exq9 n α a b).1 = -1 ∧ exv9 n α a b = -1) ∧ (d + 1 ≤ 8 → (exq9 n α a b).1 = ii m ∧ exv9 n α a b = ii (d + 1)))) := by
  refine ⟨fun hl => ?_, fun hl => ?_⟩
  · have e : exq9 n α a b = (ii b, 1) := by
      unfold exq9
      rw [hl, if_pos rfl, exs_stop n 0 (by show (1 : Int32) ≤ 1; decide) (by omega)]
      rfl
    unfold exv9
    rw [e]
    exact ⟨rfl, if_neg (ii_m1 (by omega))⟩
  · have key := bq_all hn R ha hb hbb n (Nat.le_refl n)
    have e : exq9 n α a b = upto (exs9 α a b) n 0 (-1, 9) := by
      unfold exq9
      rw [hl, if_neg (by decide)]
    rw [← e] at key
    unfold exv9
    refine ⟨fun hc => ?_, fun m hc => ?_⟩
    · unfold chq9 at hc
      rw [hc] at key
      have key' : exq9 n α a b = (-1, 9) := key
      rw [key']
      exact ⟨rfl, if_pos rfl⟩
    · obtain ⟨m1, -⟩ := chq_lt n α a b n m hc
      unfold chq9 at hc
      rw [hc] at key
      obtain ⟨d, d1, d2, d3, d4⟩ := key
      refine ⟨d, d1, d2, d3, fun h8 => ?_, fun h8 => ?_⟩
      · rw [d4, if_neg (by omega)]
        exact ⟨rfl, if_pos rfl⟩
      · rw [d4, if_pos (by omega)]
        exact ⟨rfl, if_neg (ii_m1 (by omega))⟩
theorem ca_cheap (V : CA n h α) (S : Str n h) {i j : Nat} (hi : i < n) (hj : j < n) : ∀ Q, WP Gm j_Routes_cheapestNeighbour 0 [some (.inr (.inl (some 77))), some (.inl (ii i)), some (.inl (ii j)), none, none, none] [] h Q = Q (.inl (some (.inl (cq9 (chq9 n α i j))))) h := by
  have hn := n8 S
  have hi8 : i < 8 := by omega
  have hj8 : j < 8 := by omega
  obtain ⟨c, R, wv, -⟩ := V.2.2.2.2.2.2.1
  obtain ⟨⟨r, w⟩, e1, hr⟩ := loopR (fun Q k (a : Int32 × Option MV) => WP Gm j_Routes_cheapestNeighbour 5 [some (.inr (.inl (some 77))), some (.inl (ii i)), some (.inl (ii j)), some (.inl a.1), some (.inl (ii k)), a.2] [] h Q)
    (fun k a => a.1 = cq9 (upto (chp9 α i j) k 0 none)) n
    (fun k a hk hI => by
      obtain ⟨r, w⟩ := a
      dsimp only at hI ⊢
      have hk8 := lt_8 (n8 S) hk
      obtain ⟨wc, wr⟩ := wv k hk j hj8
      have el : (chF n h k i && chF n h i k) = (hr9 α k i && hr9 α i k) := by rw [ca_ch V hn hk hi, ca_ch V hn hi hk]
      have lt := fun m hm => (chq_lt n α i j k m hm).1
      rw [upto_end, Nat.zero_add]
      generalize hof : (!decide (α.1 (70 + k) j = -1) && (!decide (α.1 (70 + k) j = ii i) && (hr9 α k i && hr9 α i k))) = of
      generalize ho : upto (chp9 α i j) k 0 none = o at hI lt ⊢
      have fin : ∃ r', (∀ Q, WP Gm j_Routes_cheapestNeighbour 61 [some (.inr (.inl (some 77))), some (.inl (ii i)), some (.inl (ii j)), some (.inl r), some (.inl (ii k)), w] [.inl (bI of)] h Q = WP Gm j_Routes_cheapestNeighbour 5 [some (.inr (.inl (some 77))), some (.inl (ii i)), some (.inl (ii j)), some (.inl r'), some (.inl (ii (k + 1))), some (.inl (bI of))] [] h Q) ∧ r' = cq9 (chp9 α i j k o) := by
        cases of with
        | false =>
          refine ⟨r, fun Q => ?_, ?_⟩
          · simp only [↓e_Routes_cheapestNeighbour_0, ↓e_Routes_cheapestNeighbour_1, ↓e_Routes_cheapestNeighbour_2, ↓e_Routes_cheapestNeighbour_3, ↓e_Routes_cheapestNeighbour_7, ↓e_Routes_cheapestNeighbour_8, ↓e_Routes_cheapestNeighbour_11, ↓e_Routes_cheapestNeighbour_14, ↓e_Routes_cheapestNeighbour_17, ↓e_Routes_cheapestNeighbour_18, ↓e_Routes_cheapestNeighbour_21, ↓e_Routes_cheapestNeighbour_23, ↓e_Routes_cheapestNeighbour_24, ↓e_Routes_cheapestNeighbour_25, ↓e_Routes_cheapestNeighbour_26, ↓e_Routes_cheapestNeighbour_27, ↓e_Routes_cheapestNeighbour_30, ↓e_Routes_cheapestNeighbour_31, ↓e_Routes_cheapestNeighbour_34, ↓e_Routes_cheapestNeighbour_36, ↓e_Routes_cheapestNeighbour_37, ↓e_Routes_cheapestNeighbour_38, ↓e_Routes_cheapestNeighbour_39, ↓e_Routes_cheapestNeighbour_40, ↓e_Routes_cheapestNeighbour_43, ↓e_Routes_cheapestNeighbour_44, ↓e_Routes_cheapestNeighbour_47, ↓e_Routes_cheapestNeighbour_49, ↓e_Routes_cheapestNeighbour_50, ↓e_Routes_cheapestNeighbour_53, ↓e_Routes_cheapestNeighbour_56, ↓e_Routes_cheapestNeighbour_57, ↓e_Routes_cheapestNeighbour_60, ↓e_Routes_cheapestNeighbour_61, ↓e_Routes_cheapestNeighbour_63, ↓e_Routes_cheapestNeighbour_65, ↓e_Routes_cheapestNeighbour_68, ↓e_Routes_cheapestNeighbour_69, ↓e_Routes_cheapestNeighbour_70, ↓e_Routes_cheapestNeighbour_73, ↓e_Routes_cheapestNeighbour_74, ↓e_Routes_cheapestNeighbour_77, ↓e_Routes_cheapestNeighbour_79, ↓e_Routes_cheapestNeighbour_80, ↓e_Routes_cheapestNeighbour_81, ↓e_Routes_cheapestNeighbour_82, ↓e_Routes_cheapestNeighbour_83, ↓e_Routes_cheapestNeighbour_86, ↓e_Routes_cheapestNeighbour_87, ↓e_Routes_cheapestNeighbour_88, ↓e_Routes_cheapestNeighbour_89, ↓e_Routes_cheapestNeighbour_90, ↓e_Routes_cheapestNeighbour_93, ↓e_Routes_cheapestNeighbour_95, ↓e_Routes_cheapestNeighbour_96, ↓e_Routes_cheapestNeighbour_99, ↓e_Routes_cheapestNeighbour_102, ↓e_Routes_cheapestNeighbour_103, not_true_eq_false, not_false_eq_true, one0, true_or, or_true, eq_self, bI_z, bI_nz, bI_o, b_ft, bI_1, bI_0, ↓kC_l, ↓kC_r, Option.toList_some, Option.toList_none, List.cons_append, List.nil_append, s1_0, s1_1i, s1_1r, s1_1w, s1_1n, s1_s, s2_0, s2_1i, s2_1r, s2_1w, s2_1n, s2_s, gI_sI, gI_sR, gI_sL, gI_sD, gR_sI, gR_sR, gR_sL, gR_sD, gL_sI, gL_sR, gL_sL, gL_sD, gD_sI, gD_sR, gD_sL, gD_sD, isK_sI, isK_sR, isK_sL, isK_sD, inL_sI, inL_sR, inL_sL, inL_sD, nx_sI, nx_sR, nx_sL, nx_sD, kd_sI, kd_sR, kd_sL, kd_sD, ln_sI, ln_sR, ln_sL, ln_sD, ↓reduceIte, c8_n, c8_1, c8_2, c8_3, c8_4, Nat.reduceAdd, ii_succ]
          · unfold chp9
            rw [hof, if_neg (by decide)]
            exact hI
        | true =>
          unfold chp9
          rw [hof, if_pos rfl]
          cases o with
          | none =>
            have hm : r = -1 := hI
            refine ⟨ii k, fun Q => ?_, rfl⟩
            simp only [↓e_Routes_cheapestNeighbour_0, ↓e_Routes_cheapestNeighbour_1, ↓e_Routes_cheapestNeighbour_2, ↓e_Routes_cheapestNeighbour_3, ↓e_Routes_cheapestNeighbour_7, ↓e_Routes_cheapestNeighbour_8, ↓e_Routes_cheapestNeighbour_11, ↓e_Routes_cheapestNeighbour_14, ↓e_Routes_cheapestNeighbour_17, ↓e_Routes_cheapestNeighbour_18, ↓e_Routes_cheapestNeighbour_21, ↓e_Routes_cheapestNeighbour_23, ↓e_Routes_cheapestNeighbour_24, ↓e_Routes_cheapestNeighbour_25, ↓e_Routes_cheapestNeighbour_26, ↓e_Routes_cheapestNeighbour_27, ↓e_Routes_cheapestNeighbour_30, ↓e_Routes_cheapestNeighbour_31, ↓e_Routes_cheapestNeighbour_34, ↓e_Routes_cheapestNeighbour_36, ↓e_Routes_cheapestNeighbour_37, ↓e_Routes_cheapestNeighbour_38, ↓e_Routes_cheapestNeighbour_39, ↓e_Routes_cheapestNeighbour_40, ↓e_Routes_cheapestNeighbour_43, ↓e_Routes_cheapestNeighbour_44, ↓e_Routes_cheapestNeighbour_47, ↓e_Routes_cheapestNeighbour_49, ↓e_Routes_cheapestNeighbour_50, ↓e_Routes_cheapestNeighbour_53, ↓e_Routes_cheapestNeighbour_56, ↓e_Routes_cheapestNeighbour_57, ↓e_Routes_cheapestNeighbour_60, ↓e_Routes_cheapestNeighbour_61, ↓e_Routes_cheapestNeighbour_63, ↓e_Routes_cheapestNeighbour_65, ↓e_Routes_cheapestNeighbour_68, ↓e_Routes_cheapestNeighbour_69, ↓e_Routes_cheapestNeighbour_70, ↓e_Routes_cheapestNeighbour_73, ↓e_Routes_cheapestNeighbour_74, ↓e_Routes_cheapestNeighbour_77, ↓e_Routes_cheapestNeighbour_79, ↓e_Routes_cheapestNeighbour_80, ↓e_Routes_cheapestNeighbour_81, ↓e_Routes_cheapestNeighbour_82, ↓e_Routes_cheapestNeighbour_83, ↓e_Routes_cheapestNeighbour_86, ↓e_Routes_cheapestNeighbour_87, ↓e_Routes_cheapestNeighbour_88, ↓e_Routes_cheapestNeighbour_89, ↓e_Routes_cheapestNeighbour_90, ↓e_Routes_cheapestNeighbour_93, ↓e_Routes_cheapestNeighbour_95, ↓e_Routes_cheapestNeighbour_96, ↓e_Routes_cheapestNeighbour_99, ↓e_Routes_cheapestNeighbour_102, ↓e_Routes_cheapestNeighbour_103, not_true_eq_false, not_false_eq_true, one0, true_or, or_true, eq_self, bI_z, bI_nz, bI_o, b_ft, bI_1, bI_0, ↓kC_l, ↓kC_r, Option.toList_some, Option.toList_none, List.cons_append, List.nil_append, s1_0, s1_1i, s1_1r, s1_1w, s1_1n, s1_s, s2_0, s2_1i, s2_1r, s2_1w, s2_1n, s2_s, gI_sI, gI_sR, gI_sL, gI_sD, gR_sI, gR_sR, gR_sL, gR_sD, gL_sI, gL_sR, gL_sL, gL_sD, gD_sI, gD_sR, gD_sL, gD_sD, isK_sI, isK_sR, isK_sL, isK_sD, inL_sI, inL_sR, inL_sL, inL_sD, nx_sI, nx_sR, nx_sL, nx_sD, kd_sI, kd_sR, kd_sL, kd_sD, ln_sI, ln_sR, ln_sL, ln_sD, ↓reduceIte, c8_n, c8_1, c8_2, c8_3, c8_4, Nat.reduceAdd, ii_succ, hm, (show ((1 : Int32) = 0) = False by decide)]
          | some b =>
            have hm : r = ii b := hI
            have b1 := lt b rfl
            have hb8 : b < 8 := by omega
            have hne : (ii b = -1) = False := eq_false (ii_m1 (by omega))
            obtain ⟨bc, -⟩ := wv b (by omega) j hj8
            dsimp only
            by_cases hlt : α.1 (60 + k) j < α.1 (60 + b) j
            · rw [if_pos hlt]
              have hle : ¬ gI h (c + 1 + b) j ≤ gI h (c + 1 + k) j := by rw [wc, bc]; exact Int32.not_le.mpr hlt
              refine ⟨ii k, fun Q => ?_, rfl⟩
              simp only [↓e_Routes_cheapestNeighbour_0, ↓e_Routes_cheapestNeighbour_1, ↓e_Routes_cheapestNeighbour_2, ↓e_Routes_cheapestNeighbour_3, ↓e_Routes_cheapestNeighbour_7, ↓e_Routes_cheapestNeighbour_8, ↓e_Routes_cheapestNeighbour_11, ↓e_Routes_cheapestNeighbour_14, ↓e_Routes_cheapestNeighbour_17, ↓e_Routes_cheapestNeighbour_18, ↓e_Routes_cheapestNeighbour_21, ↓e_Routes_cheapestNeighbour_23, ↓e_Routes_cheapestNeighbour_24, ↓e_Routes_cheapestNeighbour_25, ↓e_Routes_cheapestNeighbour_26, ↓e_Routes_cheapestNeighbour_27, ↓e_Routes_cheapestNeighbour_30, ↓e_Routes_cheapestNeighbour_31, ↓e_Routes_cheapestNeighbour_34, ↓e_Routes_cheapestNeighbour_36, ↓e_Routes_cheapestNeighbour_37, ↓e_Routes_cheapestNeighbour_38, ↓e_Routes_cheapestNeighbour_39, ↓e_Routes_cheapestNeighbour_40, ↓e_Routes_cheapestNeighbour_43, ↓e_Routes_cheapestNeighbour_44, ↓e_Routes_cheapestNeighbour_47, ↓e_Routes_cheapestNeighbour_49, ↓e_Routes_cheapestNeighbour_50, ↓e_Routes_cheapestNeighbour_53, ↓e_Routes_cheapestNeighbour_56, ↓e_Routes_cheapestNeighbour_57, ↓e_Routes_cheapestNeighbour_60, ↓e_Routes_cheapestNeighbour_61, ↓e_Routes_cheapestNeighbour_63, ↓e_Routes_cheapestNeighbour_65, ↓e_Routes_cheapestNeighbour_68, ↓e_Routes_cheapestNeighbour_69, ↓e_Routes_cheapestNeighbour_70, ↓e_Routes_cheapestNeighbour_73, ↓e_Routes_cheapestNeighbour_74, ↓e_Routes_cheapestNeighbour_77, ↓e_Routes_cheapestNeighbour_79, ↓e_Routes_cheapestNeighbour_80, ↓e_Routes_cheapestNeighbour_81, ↓e_Routes_cheapestNeighbour_82, ↓e_Routes_cheapestNeighbour_83, ↓e_Routes_cheapestNeighbour_86, ↓e_Routes_cheapestNeighbour_87, ↓e_Routes_cheapestNeighbour_88, ↓e_Routes_cheapestNeighbour_89, ↓e_Routes_cheapestNeighbour_90, ↓e_Routes_cheapestNeighbour_93, ↓e_Routes_cheapestNeighbour_95, ↓e_Routes_cheapestNeighbour_96, ↓e_Routes_cheapestNeighbour_99, ↓e_Routes_cheapestNeighbour_102, ↓e_Routes_cheapestNeighbour_103, not_true_eq_false, not_false_eq_true, one0, true_or, or_true, eq_self, bI_z, bI_nz, bI_o, b_ft, bI_1, bI_0, ↓kC_l, ↓kC_r, Option.toList_some, Option.toList_none, List.cons_append, List.nil_append, s1_0, s1_1i, s1_1r, s1_1w, s1_1n, s1_s, s2_0, s2_1i, s2_1r, s2_1w, s2_1n, s2_s, gI_sI, gI_sR, gI_sL, gI_sD, gR_sI, gR_sR, gR_sL, gR_sD, gL_sI, gL_sR, gL_sL, gL_sD, gD_sI, gD_sR, gD_sL, gD_sD, isK_sI, isK_sR, isK_sL, isK_sD, inL_sI, inL_sR, inL_sL, inL_sD, nx_sI, nx_sR, nx_sL, nx_sD, kd_sI, kd_sR, kd_sL, kd_sD, ln_sI, ln_sR, ln_sL, ln_sD, ↓reduceIte, c8_n, c8_1, c8_2, c8_3, c8_4, Nat.reduceAdd, ii_succ, hm, hne, (show ((1 : Int32) = 0) = False by decide), k_s S, k_land S, k_nodes S, k_hear S, k_routes S, k_traffic S, k_market S, g_cnt S, r_land S, r_routes S, r_traffic S, r_market S, r_nodes S, r_hear S, r_rland S, r_tland S, r_troutes S, R.2.1, k_tab S R.t1, l_tab S R.t1 hk8, l_tab S R.t1 hb8, r_tab S R.t1 hk8, r_tab S R.t1 hb8, k_row S R.t1 hk8, k_row S R.t1 hb8, l_row S R.t1 hk8 hj8, l_row S R.t1 hb8 hj8, ii_nat (lt31 hk8), ii_nat (lt31 hb8), ii_nat (lt31 hj8), hle]
            · rw [if_neg hlt]
              have hle : gI h (c + 1 + b) j ≤ gI h (c + 1 + k) j := by rw [wc, bc]; exact Int32.not_lt.mp hlt
              refine ⟨ii b, fun Q => ?_, rfl⟩
              simp only [↓e_Routes_cheapestNeighbour_0, ↓e_Routes_cheapestNeighbour_1, ↓e_Routes_cheapestNeighbour_2, ↓e_Routes_cheapestNeighbour_3, ↓e_Routes_cheapestNeighbour_7, ↓e_Routes_cheapestNeighbour_8, ↓e_Routes_cheapestNeighbour_11, ↓e_Routes_cheapestNeighbour_14, ↓e_Routes_cheapestNeighbour_17, ↓e_Routes_cheapestNeighbour_18, ↓e_Routes_cheapestNeighbour_21, ↓e_Routes_cheapestNeighbour_23, ↓e_Routes_cheapestNeighbour_24, ↓e_Routes_cheapestNeighbour_25, ↓e_Routes_cheapestNeighbour_26, ↓e_Routes_cheapestNeighbour_27, ↓e_Routes_cheapestNeighbour_30, ↓e_Routes_cheapestNeighbour_31, ↓e_Routes_cheapestNeighbour_34, ↓e_Routes_cheapestNeighbour_36, ↓e_Routes_cheapestNeighbour_37, ↓e_Routes_cheapestNeighbour_38, ↓e_Routes_cheapestNeighbour_39, ↓e_Routes_cheapestNeighbour_40, ↓e_Routes_cheapestNeighbour_43, ↓e_Routes_cheapestNeighbour_44, ↓e_Routes_cheapestNeighbour_47, ↓e_Routes_cheapestNeighbour_49, ↓e_Routes_cheapestNeighbour_50, ↓e_Routes_cheapestNeighbour_53, ↓e_Routes_cheapestNeighbour_56, ↓e_Routes_cheapestNeighbour_57, ↓e_Routes_cheapestNeighbour_60, ↓e_Routes_cheapestNeighbour_61, ↓e_Routes_cheapestNeighbour_63, ↓e_Routes_cheapestNeighbour_65, ↓e_Routes_cheapestNeighbour_68, ↓e_Routes_cheapestNeighbour_69, ↓e_Routes_cheapestNeighbour_70, ↓e_Routes_cheapestNeighbour_73, ↓e_Routes_cheapestNeighbour_74, ↓e_Routes_cheapestNeighbour_77, ↓e_Routes_cheapestNeighbour_79, ↓e_Routes_cheapestNeighbour_80, ↓e_Routes_cheapestNeighbour_81, ↓e_Routes_cheapestNeighbour_82, ↓e_Routes_cheapestNeighbour_83, ↓e_Routes_cheapestNeighbour_86, ↓e_Routes_cheapestNeighbour_87, ↓e_Routes_cheapestNeighbour_88, ↓e_Routes_cheapestNeighbour_89, ↓e_Routes_cheapestNeighbour_90, ↓e_Routes_cheapestNeighbour_93, ↓e_Routes_cheapestNeighbour_95, ↓e_Routes_cheapestNeighbour_96, ↓e_Routes_cheapestNeighbour_99, ↓e_Routes_cheapestNeighbour_102, ↓e_Routes_cheapestNeighbour_103, not_true_eq_false, not_false_eq_true, one0, true_or, or_true, eq_self, bI_z, bI_nz, bI_o, b_ft, bI_1, bI_0, ↓kC_l, ↓kC_r, Option.toList_some, Option.toList_none, List.cons_append, List.nil_append, s1_0, s1_1i, s1_1r, s1_1w, s1_1n, s1_s, s2_0, s2_1i, s2_1r, s2_1w, s2_1n, s2_s, gI_sI, gI_sR, gI_sL, gI_sD, gR_sI, gR_sR, gR_sL, gR_sD, gL_sI, gL_sR, gL_sL, gL_sD, gD_sI, gD_sR, gD_sL, gD_sD, isK_sI, isK_sR, isK_sL, isK_sD, inL_sI, inL_sR, inL_sL, inL_sD, nx_sI, nx_sR, nx_sL, nx_sD, kd_sI, kd_sR, kd_sL, kd_sD, ln_sI, ln_sR, ln_sL, ln_sD, ↓reduceIte, c8_n, c8_1, c8_2, c8_3, c8_4, Nat.reduceAdd, ii_succ, hm, hne, (show ((1 : Int32) = 0) = False by decide), k_s S, k_land S, k_nodes S, k_hear S, k_routes S, k_traffic S, k_market S, g_cnt S, r_land S, r_routes S, r_traffic S, r_market S, r_nodes S, r_hear S, r_rland S, r_tland S, r_troutes S, R.2.1, k_tab S R.t1, l_tab S R.t1 hk8, l_tab S R.t1 hb8, r_tab S R.t1 hk8, r_tab S R.t1 hb8, k_row S R.t1 hk8, k_row S R.t1 hb8, l_row S R.t1 hk8 hj8, l_row S R.t1 hb8 hj8, ii_nat (lt31 hk8), ii_nat (lt31 hb8), ii_nat (lt31 hj8), hle]
      obtain ⟨r', q1, q2⟩ := fin
      refine ⟨(r', some (.inl (bI of))), fun Q => ?_, q2⟩
      dsimp only
      rw [← q1 Q, e_Routes_cheapestNeighbour_5]
      simp only [↓e_Routes_cheapestNeighbour_0, ↓e_Routes_cheapestNeighbour_1, ↓e_Routes_cheapestNeighbour_2, ↓e_Routes_cheapestNeighbour_3, ↓e_Routes_cheapestNeighbour_7, ↓e_Routes_cheapestNeighbour_8, ↓e_Routes_cheapestNeighbour_11, ↓e_Routes_cheapestNeighbour_14, ↓e_Routes_cheapestNeighbour_17, ↓e_Routes_cheapestNeighbour_18, ↓e_Routes_cheapestNeighbour_21, ↓e_Routes_cheapestNeighbour_23, ↓e_Routes_cheapestNeighbour_24, ↓e_Routes_cheapestNeighbour_25, ↓e_Routes_cheapestNeighbour_26, ↓e_Routes_cheapestNeighbour_27, ↓e_Routes_cheapestNeighbour_30, ↓e_Routes_cheapestNeighbour_31, ↓e_Routes_cheapestNeighbour_34, ↓e_Routes_cheapestNeighbour_36, ↓e_Routes_cheapestNeighbour_37, ↓e_Routes_cheapestNeighbour_38, ↓e_Routes_cheapestNeighbour_39, ↓e_Routes_cheapestNeighbour_40, ↓e_Routes_cheapestNeighbour_43, ↓e_Routes_cheapestNeighbour_44, ↓e_Routes_cheapestNeighbour_47, ↓e_Routes_cheapestNeighbour_49, ↓e_Routes_cheapestNeighbour_50, ↓e_Routes_cheapestNeighbour_53, ↓e_Routes_cheapestNeighbour_56, ↓e_Routes_cheapestNeighbour_57, ↓e_Routes_cheapestNeighbour_60, ↓e_Routes_cheapestNeighbour_63, ↓e_Routes_cheapestNeighbour_65, ↓e_Routes_cheapestNeighbour_68, ↓e_Routes_cheapestNeighbour_69, ↓e_Routes_cheapestNeighbour_70, ↓e_Routes_cheapestNeighbour_73, ↓e_Routes_cheapestNeighbour_74, ↓e_Routes_cheapestNeighbour_77, ↓e_Routes_cheapestNeighbour_79, ↓e_Routes_cheapestNeighbour_80, ↓e_Routes_cheapestNeighbour_81, ↓e_Routes_cheapestNeighbour_82, ↓e_Routes_cheapestNeighbour_83, ↓e_Routes_cheapestNeighbour_86, ↓e_Routes_cheapestNeighbour_87, ↓e_Routes_cheapestNeighbour_88, ↓e_Routes_cheapestNeighbour_89, ↓e_Routes_cheapestNeighbour_90, ↓e_Routes_cheapestNeighbour_93, ↓e_Routes_cheapestNeighbour_95, ↓e_Routes_cheapestNeighbour_96, ↓e_Routes_cheapestNeighbour_99, ↓e_Routes_cheapestNeighbour_102, ↓e_Routes_cheapestNeighbour_103, not_true_eq_false, not_false_eq_true, one0, true_or, or_true, eq_self, bI_z, bI_nz, bI_o, b_ft, bI_1, bI_0, ↓kC_l, ↓kC_r, Option.toList_some, Option.toList_none, List.cons_append, List.nil_append, s1_0, s1_1i, s1_1r, s1_1w, s1_1n, s1_s, s2_0, s2_1i, s2_1r, s2_1w, s2_1n, s2_s, gI_sI, gI_sR, gI_sL, gI_sD, gR_sI, gR_sR, gR_sL, gR_sD, gL_sI, gL_sR, gL_sL, gL_sD, gD_sI, gD_sR, gD_sL, gD_sD, isK_sI, isK_sR, isK_sL, isK_sD, inL_sI, inL_sR, inL_sL, inL_sD, nx_sI, nx_sR, nx_sL, nx_sD, kd_sI, kd_sR, kd_sL, kd_sD, ln_sI, ln_sR, ln_sL, ln_sD, ↓reduceIte, c8_n, c8_1, c8_2, c8_3, c8_4, Nat.reduceAdd, k_s S, k_land S, k_nodes S, k_hear S, k_routes S, k_traffic S, k_market S, g_cnt S, r_land S, r_routes S, r_traffic S, r_market S, r_nodes S, r_hear S, r_rland S, r_tland S, r_troutes S, le_f (n8 S) hk, R.2.2.1, k_tab S R.t2, l_tab S R.t2 hk8, r_tab S R.t2 hk8, k_row S R.t2 hk8, l_row S R.t2 hk8 hj8, ii_nat (lt31 hk8), ii_nat (lt31 hj8), q_areLinked _ S hk8 hi8, el, wr]
      rw [← hof]
      by_cases h1 : α.1 (70 + k) j = -1
      · rw [if_pos h1, decide_eq_true h1]; rfl
      · rw [if_neg h1, decide_eq_false h1]
        by_cases h2 : α.1 (70 + k) j = ii i
        · rw [if_pos h2, decide_eq_true h2]; rfl
        · rw [if_neg h2, decide_eq_false h2]
          cases hr9 α k i && hr9 α i k <;> rfl) n 0 (-1, none) (by omega) rfl
  have hr' : r = cq9 (chq9 n α i j) := hr
  intro Q
  rw [← hr']
  simp only [↓e_Routes_cheapestNeighbour_0, ↓e_Routes_cheapestNeighbour_1, ↓e_Routes_cheapestNeighbour_2, ↓e_Routes_cheapestNeighbour_3, ↓e_Routes_cheapestNeighbour_7, ↓e_Routes_cheapestNeighbour_8, ↓e_Routes_cheapestNeighbour_11, ↓e_Routes_cheapestNeighbour_14, ↓e_Routes_cheapestNeighbour_17, ↓e_Routes_cheapestNeighbour_18, ↓e_Routes_cheapestNeighbour_21, ↓e_Routes_cheapestNeighbour_23, ↓e_Routes_cheapestNeighbour_24, ↓e_Routes_cheapestNeighbour_25, ↓e_Routes_cheapestNeighbour_26, ↓e_Routes_cheapestNeighbour_27, ↓e_Routes_cheapestNeighbour_30, ↓e_Routes_cheapestNeighbour_31, ↓e_Routes_cheapestNeighbour_34, ↓e_Routes_cheapestNeighbour_36, ↓e_Routes_cheapestNeighbour_37, ↓e_Routes_cheapestNeighbour_38, ↓e_Routes_cheapestNeighbour_39, ↓e_Routes_cheapestNeighbour_40, ↓e_Routes_cheapestNeighbour_43, ↓e_Routes_cheapestNeighbour_44, ↓e_Routes_cheapestNeighbour_47, ↓e_Routes_cheapestNeighbour_49, ↓e_Routes_cheapestNeighbour_50, ↓e_Routes_cheapestNeighbour_53, ↓e_Routes_cheapestNeighbour_56, ↓e_Routes_cheapestNeighbour_57, ↓e_Routes_cheapestNeighbour_60, ↓e_Routes_cheapestNeighbour_61, ↓e_Routes_cheapestNeighbour_63, ↓e_Routes_cheapestNeighbour_65, ↓e_Routes_cheapestNeighbour_68, ↓e_Routes_cheapestNeighbour_69, ↓e_Routes_cheapestNeighbour_70, ↓e_Routes_cheapestNeighbour_73, ↓e_Routes_cheapestNeighbour_74, ↓e_Routes_cheapestNeighbour_77, ↓e_Routes_cheapestNeighbour_79, ↓e_Routes_cheapestNeighbour_80, ↓e_Routes_cheapestNeighbour_81, ↓e_Routes_cheapestNeighbour_82, ↓e_Routes_cheapestNeighbour_83, ↓e_Routes_cheapestNeighbour_86, ↓e_Routes_cheapestNeighbour_87, ↓e_Routes_cheapestNeighbour_88, ↓e_Routes_cheapestNeighbour_89, ↓e_Routes_cheapestNeighbour_90, ↓e_Routes_cheapestNeighbour_93, ↓e_Routes_cheapestNeighbour_95, ↓e_Routes_cheapestNeighbour_96, ↓e_Routes_cheapestNeighbour_99, ↓e_Routes_cheapestNeighbour_102, ↓e_Routes_cheapestNeighbour_103, not_true_eq_false, not_false_eq_true, one0, true_or, or_true, eq_self, bI_z, bI_nz, bI_o, b_ft, bI_1, bI_0, ↓kC_l, ↓kC_r, Option.toList_some, Option.toList_none, List.cons_append, List.nil_append, s1_0, s1_1i, s1_1r, s1_1w, s1_1n, s1_s, s2_0, s2_1i, s2_1r, s2_1w, s2_1n, s2_s, gI_sI, gI_sR, gI_sL, gI_sD, gR_sI, gR_sR, gR_sL, gR_sD, gL_sI, gL_sR, gL_sL, gL_sD, gD_sI, gD_sR, gD_sL, gD_sD, isK_sI, isK_sR, isK_sL, isK_sD, inL_sI, inL_sR, inL_sL, inL_sD, nx_sI, nx_sR, nx_sL, nx_sD, kd_sI, kd_sR, kd_sL, kd_sD, ln_sI, ln_sR, ln_sL, ln_sD, ↓reduceIte, c8_n, c8_1, c8_2, c8_3, c8_4, Nat.reduceAdd]
  refine (e1 Q).trans ?_
  rw [e_Routes_cheapestNeighbour_5]
  simp only [↓e_Routes_cheapestNeighbour_0, ↓e_Routes_cheapestNeighbour_1, ↓e_Routes_cheapestNeighbour_2, ↓e_Routes_cheapestNeighbour_3, ↓e_Routes_cheapestNeighbour_7, ↓e_Routes_cheapestNeighbour_8, ↓e_Routes_cheapestNeighbour_11, ↓e_Routes_cheapestNeighbour_14, ↓e_Routes_cheapestNeighbour_17, ↓e_Routes_cheapestNeighbour_18, ↓e_Routes_cheapestNeighbour_21, ↓e_Routes_cheapestNeighbour_23, ↓e_Routes_cheapestNeighbour_24, ↓e_Routes_cheapestNeighbour_25, ↓e_Routes_cheapestNeighbour_26, ↓e_Routes_cheapestNeighbour_27, ↓e_Routes_cheapestNeighbour_30, ↓e_Routes_cheapestNeighbour_31, ↓e_Routes_cheapestNeighbour_34, ↓e_Routes_cheapestNeighbour_36, ↓e_Routes_cheapestNeighbour_37, ↓e_Routes_cheapestNeighbour_38, ↓e_Routes_cheapestNeighbour_39, ↓e_Routes_cheapestNeighbour_40, ↓e_Routes_cheapestNeighbour_43, ↓e_Routes_cheapestNeighbour_44, ↓e_Routes_cheapestNeighbour_47, ↓e_Routes_cheapestNeighbour_49, ↓e_Routes_cheapestNeighbour_50, ↓e_Routes_cheapestNeighbour_53, ↓e_Routes_cheapestNeighbour_56, ↓e_Routes_cheapestNeighbour_57, ↓e_Routes_cheapestNeighbour_60, ↓e_Routes_cheapestNeighbour_61, ↓e_Routes_cheapestNeighbour_63, ↓e_Routes_cheapestNeighbour_65, ↓e_Routes_cheapestNeighbour_68, ↓e_Routes_cheapestNeighbour_69, ↓e_Routes_cheapestNeighbour_70, ↓e_Routes_cheapestNeighbour_73, ↓e_Routes_cheapestNeighbour_74, ↓e_Routes_cheapestNeighbour_77, ↓e_Routes_cheapestNeighbour_79, ↓e_Routes_cheapestNeighbour_80, ↓e_Routes_cheapestNeighbour_81, ↓e_Routes_cheapestNeighbour_82, ↓e_Routes_cheapestNeighbour_83, ↓e_Routes_cheapestNeighbour_86, ↓e_Routes_cheapestNeighbour_87, ↓e_Routes_cheapestNeighbour_88, ↓e_Routes_cheapestNeighbour_89, ↓e_Routes_cheapestNeighbour_90, ↓e_Routes_cheapestNeighbour_93, ↓e_Routes_cheapestNeighbour_95, ↓e_Routes_cheapestNeighbour_96, ↓e_Routes_cheapestNeighbour_99, ↓e_Routes_cheapestNeighbour_102, ↓e_Routes_cheapestNeighbour_103, not_true_eq_false, not_false_eq_true, one0, true_or, or_true, eq_self, bI_z, bI_nz, bI_o, b_ft, bI_1, bI_0, ↓kC_l, ↓kC_r, Option.toList_some, Option.toList_none, List.cons_append, List.nil_append, s1_0, s1_1i, s1_1r, s1_1w, s1_1n, s1_s, s2_0, s2_1i, s2_1r, s2_1w, s2_1n, s2_s, gI_sI, gI_sR, gI_sL, gI_sD, gR_sI, gR_sR, gR_sL, gR_sD, gL_sI, gL_sR, gL_sL, gL_sD, gD_sI, gD_sR, gD_sL, gD_sD, isK_sI, isK_sR, isK_sL, isK_sD, inL_sI, inL_sR, inL_sL, inL_sD, nx_sI, nx_sR, nx_sL, nx_sD, kd_sI, kd_sR, kd_sL, kd_sD, ln_sI, ln_sR, ln_sL, ln_sD, ↓reduceIte, c8_n, c8_1, c8_2, c8_3, c8_4, Nat.reduceAdd, k_s S, k_land S, k_nodes S, k_hear S, k_routes S, k_traffic S, k_market S, g_cnt S, r_land S, r_routes S, r_traffic S, r_market S, r_nodes S, r_hear S, r_rland S, r_tland S, r_troutes S, le_t (n8 S)]
theorem ca_pair (V : CA n h α) (S : Str n h) (Rv : Rv9 n α) (hd : ∀ j, j < n → α.1 (70 + j) j = -1) {c : Nat} (R : Rt h c) (wv : Cw n h α c) {i j : Nat} (hi : i < n) (hj : j < n) (hij : i ≠ j) : ∀ Q, WP Gm j_Routes_renewPair 0 [some (.inr (.inl (some 77))), some (.inl (ii i)), some (.inl (ii j)), none, none, none] [] h Q = Q (.inl none) (sI (sI h (183 - c + 1 + i) j (exq9 n α i j).1) (174 - c + 1 + i) j (exv9 n α i j)) := by
  have hn := n8 S
  have hi8 : i < 8 := by omega
  have hj8 : j < 8 := by omega
  have hcc := R.1
  obtain ⟨x1, x2⟩ := exq_c hn Rv hi hj (hd j hj)
  have fin : ∀ (x y : Int32) (w : Option MV) (Q : MRes → Hp → Prop), WP Gm j_Routes_renewPair 71 [some (.inr (.inl (some 77))), some (.inl (ii i)), some (.inl (ii j)), some (.inl x), some (.inl y), w] [] h Q = Q (.inl none) (sI (sI h (183 - c + 1 + i) j x) (174 - c + 1 + i) j y) := by
    intro x y w Q
    have n1 : ¬ 183 - c + 1 + i = 0 := by omega
    have n2 : ¬ 174 - c + 1 + i = 0 := by omega
    simp only [↓e_Routes_renewPair_0, ↓e_Routes_renewPair_1, ↓e_Routes_renewPair_2, ↓e_Routes_renewPair_3, ↓e_Routes_renewPair_5, ↓e_Routes_renewPair_6, ↓e_Routes_renewPair_9, ↓e_Routes_renewPair_10, ↓e_Routes_renewPair_11, ↓e_Routes_renewPair_14, ↓e_Routes_renewPair_17, ↓e_Routes_renewPair_18, ↓e_Routes_renewPair_19, ↓e_Routes_renewPair_20, ↓e_Routes_renewPair_22, ↓e_Routes_renewPair_25, ↓e_Routes_renewPair_26, ↓e_Routes_renewPair_27, ↓e_Routes_renewPair_28, ↓e_Routes_renewPair_31, ↓e_Routes_renewPair_33, ↓e_Routes_renewPair_35, ↓e_Routes_renewPair_36, ↓e_Routes_renewPair_39, ↓e_Routes_renewPair_40, ↓e_Routes_renewPair_43, ↓e_Routes_renewPair_45, ↓e_Routes_renewPair_46, ↓e_Routes_renewPair_47, ↓e_Routes_renewPair_48, ↓e_Routes_renewPair_49, ↓e_Routes_renewPair_50, ↓e_Routes_renewPair_52, ↓e_Routes_renewPair_55, ↓e_Routes_renewPair_57, ↓e_Routes_renewPair_58, ↓e_Routes_renewPair_59, ↓e_Routes_renewPair_62, ↓e_Routes_renewPair_64, ↓e_Routes_renewPair_65, ↓e_Routes_renewPair_66, ↓e_Routes_renewPair_67, ↓e_Routes_renewPair_68, ↓e_Routes_renewPair_69, ↓e_Routes_renewPair_71, ↓e_Routes_renewPair_72, ↓e_Routes_renewPair_75, ↓e_Routes_renewPair_76, ↓e_Routes_renewPair_77, ↓e_Routes_renewPair_78, ↓e_Routes_renewPair_79, ↓e_Routes_renewPair_80, ↓e_Routes_renewPair_81, ↓e_Routes_renewPair_84, ↓e_Routes_renewPair_85, ↓e_Routes_renewPair_86, ↓e_Routes_renewPair_87, ↓e_Routes_renewPair_89, ↓e_Routes_renewPair_90, not_true_eq_false, not_false_eq_true, one0, true_or, or_true, eq_self, bI_z, bI_nz, bI_o, b_ft, bI_1, bI_0, ↓kC_l, ↓kC_r, Option.toList_some, Option.toList_none, List.cons_append, List.nil_append, s1_0, s1_1i, s1_1r, s1_1w, s1_1n, s1_s, s2_0, s2_1i, s2_1r, s2_1w, s2_1n, s2_s, gI_sI, gI_sR, gI_sL, gI_sD, gR_sI, gR_sR, gR_sL, gR_sD, gL_sI, gL_sR, gL_sL, gL_sD, gD_sI, gD_sR, gD_sL, gD_sD, isK_sI, isK_sR, isK_sL, isK_sD, inL_sI, inL_sR, inL_sL, inL_sD, nx_sI, nx_sR, nx_sL, nx_sD, kd_sI, kd_sR, kd_sL, kd_sD, ln_sI, ln_sR, ln_sL, ln_sD, ↓reduceIte, c8_n, c8_1, c8_2, c8_3, c8_4, Nat.reduceAdd, k_s S, k_land S, k_nodes S, k_hear S, k_routes S, k_traffic S, k_market S, g_cnt S, r_land S, r_routes S, r_traffic S, r_market S, r_nodes S, r_hear S, r_rland S, r_tland S, r_troutes S, R.2.2.2.1, R.2.2.2.2, k_tab S R.t3, k_tab S R.t4, l_tab S R.t3 hi8, l_tab S R.t4 hi8, r_tab S R.t3 hi8, r_tab S R.t4 hi8, k_row S R.t3 hi8, k_row S R.t4 hi8, l_row S R.t3 hi8 hj8, l_row S R.t4 hi8 hj8, ii_nat (lt31 hi8), ii_nat (lt31 hj8), n1, n2]
  have el : (chF n h i j && chF n h j i) = (hr9 α i j && hr9 α j i) := by rw [ca_ch V hn hi hj, ca_ch V hn hj hi]
  intro Q
  cases hl : (hr9 α i j && hr9 α j i) with
  | true =>
    rw [hl] at el
    obtain ⟨y1, y2⟩ := x1 hl
    rw [y1, y2, ← fin (ii j) 1 none Q]
    simp only [↓e_Routes_renewPair_0, ↓e_Routes_renewPair_1, ↓e_Routes_renewPair_2, ↓e_Routes_renewPair_3, ↓e_Routes_renewPair_5, ↓e_Routes_renewPair_6, ↓e_Routes_renewPair_9, ↓e_Routes_renewPair_10, ↓e_Routes_renewPair_11, ↓e_Routes_renewPair_14, ↓e_Routes_renewPair_17, ↓e_Routes_renewPair_18, ↓e_Routes_renewPair_19, ↓e_Routes_renewPair_20, ↓e_Routes_renewPair_22, ↓e_Routes_renewPair_25, ↓e_Routes_renewPair_26, ↓e_Routes_renewPair_27, ↓e_Routes_renewPair_28, ↓e_Routes_renewPair_31, ↓e_Routes_renewPair_33, ↓e_Routes_renewPair_35, ↓e_Routes_renewPair_36, ↓e_Routes_renewPair_39, ↓e_Routes_renewPair_40, ↓e_Routes_renewPair_43, ↓e_Routes_renewPair_45, ↓e_Routes_renewPair_46, ↓e_Routes_renewPair_47, ↓e_Routes_renewPair_48, ↓e_Routes_renewPair_49, ↓e_Routes_renewPair_50, ↓e_Routes_renewPair_52, ↓e_Routes_renewPair_55, ↓e_Routes_renewPair_57, ↓e_Routes_renewPair_58, ↓e_Routes_renewPair_59, ↓e_Routes_renewPair_62, ↓e_Routes_renewPair_64, ↓e_Routes_renewPair_65, ↓e_Routes_renewPair_66, ↓e_Routes_renewPair_67, ↓e_Routes_renewPair_68, ↓e_Routes_renewPair_69, ↓e_Routes_renewPair_72, ↓e_Routes_renewPair_75, ↓e_Routes_renewPair_76, ↓e_Routes_renewPair_77, ↓e_Routes_renewPair_78, ↓e_Routes_renewPair_79, ↓e_Routes_renewPair_80, ↓e_Routes_renewPair_81, ↓e_Routes_renewPair_84, ↓e_Routes_renewPair_85, ↓e_Routes_renewPair_86, ↓e_Routes_renewPair_87, ↓e_Routes_renewPair_89, ↓e_Routes_renewPair_90, not_true_eq_false, not_false_eq_true, one0, true_or, or_true, eq_self, bI_z, bI_nz, bI_o, b_ft, bI_1, bI_0, ↓kC_l, ↓kC_r, Option.toList_some, Option.toList_none, List.cons_append, List.nil_append, s1_0, s1_1i, s1_1r, s1_1w, s1_1n, s1_s, s2_0, s2_1i, s2_1r, s2_1w, s2_1n, s2_s, gI_sI, gI_sR, gI_sL, gI_sD, gR_sI, gR_sR, gR_sL, gR_sD, gL_sI, gL_sR, gL_sL, gL_sD, gD_sI, gD_sR, gD_sL, gD_sD, isK_sI, isK_sR, isK_sL, isK_sD, inL_sI, inL_sR, inL_sL, inL_sD, nx_sI, nx_sR, nx_sL, nx_sD, kd_sI, kd_sR, kd_sL, kd_sD, ln_sI, ln_sR, ln_sL, ln_sD, ↓reduceIte, c8_n, c8_1, c8_2, c8_3, c8_4, Nat.reduceAdd, k_s S, k_land S, k_nodes S, k_hear S, k_routes S, k_traffic S, k_market S, g_cnt S, r_land S, r_routes S, r_traffic S, r_market S, r_nodes S, r_hear S, r_rland S, r_tland S, r_troutes S, q_areLinked _ S hi8 hj8, el, Bool.true_eq_false]
  | false =>
    rw [hl] at el
    obtain ⟨y1, y2⟩ := x2 hl
    have e1 := ca_cheap V S hi hj
    cases ho : chq9 n α i j with
    | none =>
      obtain ⟨z1, z2⟩ := y1 ho
      have e1' : ∀ Q, WP Gm j_Routes_cheapestNeighbour 0 [some (.inr (.inl (some 77))), some (.inl (ii i)), some (.inl (ii j)), none, none, none] [] h Q = Q (.inl (some (.inl (-1)))) h := fun Q => by rw [e1 Q, ho]; rfl
      rw [z1, z2, ← fin (-1) (-1) (some (.inl (-1))) Q]
      simp only [↓e_Routes_renewPair_0, ↓e_Routes_renewPair_1, ↓e_Routes_renewPair_2, ↓e_Routes_renewPair_3, ↓e_Routes_renewPair_5, ↓e_Routes_renewPair_6, ↓e_Routes_renewPair_9, ↓e_Routes_renewPair_10, ↓e_Routes_renewPair_11, ↓e_Routes_renewPair_14, ↓e_Routes_renewPair_17, ↓e_Routes_renewPair_18, ↓e_Routes_renewPair_19, ↓e_Routes_renewPair_20, ↓e_Routes_renewPair_22, ↓e_Routes_renewPair_25, ↓e_Routes_renewPair_26, ↓e_Routes_renewPair_27, ↓e_Routes_renewPair_28, ↓e_Routes_renewPair_31, ↓e_Routes_renewPair_33, ↓e_Routes_renewPair_35, ↓e_Routes_renewPair_36, ↓e_Routes_renewPair_39, ↓e_Routes_renewPair_40, ↓e_Routes_renewPair_43, ↓e_Routes_renewPair_45, ↓e_Routes_renewPair_46, ↓e_Routes_renewPair_47, ↓e_Routes_renewPair_48, ↓e_Routes_renewPair_49, ↓e_Routes_renewPair_50, ↓e_Routes_renewPair_52, ↓e_Routes_renewPair_55, ↓e_Routes_renewPair_57, ↓e_Routes_renewPair_58, ↓e_Routes_renewPair_59, ↓e_Routes_renewPair_62, ↓e_Routes_renewPair_64, ↓e_Routes_renewPair_65, ↓e_Routes_renewPair_66, ↓e_Routes_renewPair_67, ↓e_Routes_renewPair_68, ↓e_Routes_renewPair_69, ↓e_Routes_renewPair_72, ↓e_Routes_renewPair_75, ↓e_Routes_renewPair_76, ↓e_Routes_renewPair_77, ↓e_Routes_renewPair_78, ↓e_Routes_renewPair_79, ↓e_Routes_renewPair_80, ↓e_Routes_renewPair_81, ↓e_Routes_renewPair_84, ↓e_Routes_renewPair_85, ↓e_Routes_renewPair_86, ↓e_Routes_renewPair_87, ↓e_Routes_renewPair_89, ↓e_Routes_renewPair_90, not_true_eq_false, not_false_eq_true, one0, true_or, or_true, eq_self, bI_z, bI_nz, bI_o, b_ft, bI_1, bI_0, ↓kC_l, ↓kC_r, Option.toList_some, Option.toList_none, List.cons_append, List.nil_append, s1_0, s1_1i, s1_1r, s1_1w, s1_1n, s1_s, s2_0, s2_1i, s2_1r, s2_1w, s2_1n, s2_s, gI_sI, gI_sR, gI_sL, gI_sD, gR_sI, gR_sR, gR_sL, gR_sD, gL_sI, gL_sR, gL_sL, gL_sD, gD_sI, gD_sR, gD_sL, gD_sD, isK_sI, isK_sR, isK_sL, isK_sD, inL_sI, inL_sR, inL_sL, inL_sD, nx_sI, nx_sR, nx_sL, nx_sD, kd_sI, kd_sR, kd_sL, kd_sD, ln_sI, ln_sR, ln_sL, ln_sD, ↓reduceIte, c8_n, c8_1, c8_2, c8_3, c8_4, Nat.reduceAdd, k_s S, k_land S, k_nodes S, k_hear S, k_routes S, k_traffic S, k_market S, g_cnt S, r_land S, r_routes S, r_traffic S, r_market S, r_nodes S, r_hear S, r_rland S, r_tland S, r_troutes S, q_areLinked _ S hi8 hj8, el, e1']
    | some b =>
      obtain ⟨b1, b3⟩ := chq_lt n α i j n b ho
      have hb8 : b < 8 := by omega
      have hne : (ii b = -1) = False := eq_false (ii_m1 (by omega))
      have e1' : ∀ Q, WP Gm j_Routes_cheapestNeighbour 0 [some (.inr (.inl (some 77))), some (.inl (ii i)), some (.inl (ii j)), none, none, none] [] h Q = Q (.inl (some (.inl (ii b)))) h := fun Q => by rw [e1 Q, ho]; rfl
      obtain ⟨d, d1, d2, d3, d4, d5⟩ := y2 b ho
      have hd1 : gI h (c + 1 + b) j + 1 = ii (d + 1) := by rw [(wv b b1 j hj8).1, d3, ii_succ]
      have e8 : ((8 : Int32) < ii (d + 1)) = (8 < d + 1) := ii_lt (i := 8) (by omega) (by omega)
      by_cases h8 : 8 < d + 1
      · obtain ⟨z1, z2⟩ := d4 h8
        rw [z1, z2, ← fin (-1) (-1) (some (.inl (ii b))) Q]
        simp only [↓e_Routes_renewPair_0, ↓e_Routes_renewPair_1, ↓e_Routes_renewPair_2, ↓e_Routes_renewPair_3, ↓e_Routes_renewPair_5, ↓e_Routes_renewPair_6, ↓e_Routes_renewPair_9, ↓e_Routes_renewPair_10, ↓e_Routes_renewPair_11, ↓e_Routes_renewPair_14, ↓e_Routes_renewPair_17, ↓e_Routes_renewPair_18, ↓e_Routes_renewPair_19, ↓e_Routes_renewPair_20, ↓e_Routes_renewPair_22, ↓e_Routes_renewPair_25, ↓e_Routes_renewPair_26, ↓e_Routes_renewPair_27, ↓e_Routes_renewPair_28, ↓e_Routes_renewPair_31, ↓e_Routes_renewPair_33, ↓e_Routes_renewPair_35, ↓e_Routes_renewPair_36, ↓e_Routes_renewPair_39, ↓e_Routes_renewPair_40, ↓e_Routes_renewPair_43, ↓e_Routes_renewPair_45, ↓e_Routes_renewPair_46, ↓e_Routes_renewPair_47, ↓e_Routes_renewPair_48, ↓e_Routes_renewPair_49, ↓e_Routes_renewPair_50, ↓e_Routes_renewPair_52, ↓e_Routes_renewPair_55, ↓e_Routes_renewPair_57, ↓e_Routes_renewPair_58, ↓e_Routes_renewPair_59, ↓e_Routes_renewPair_62, ↓e_Routes_renewPair_64, ↓e_Routes_renewPair_65, ↓e_Routes_renewPair_66, ↓e_Routes_renewPair_67, ↓e_Routes_renewPair_68, ↓e_Routes_renewPair_69, ↓e_Routes_renewPair_72, ↓e_Routes_renewPair_75, ↓e_Routes_renewPair_76, ↓e_Routes_renewPair_77, ↓e_Routes_renewPair_78, ↓e_Routes_renewPair_79, ↓e_Routes_renewPair_80, ↓e_Routes_renewPair_81, ↓e_Routes_renewPair_84, ↓e_Routes_renewPair_85, ↓e_Routes_renewPair_86, ↓e_Routes_renewPair_87, ↓e_Routes_renewPair_89, ↓e_Routes_renewPair_90, not_true_eq_false, not_false_eq_true, one0, true_or, or_true, eq_self, bI_z, bI_nz, bI_o, b_ft, bI_1, bI_0, ↓kC_l, ↓kC_r, Option.toList_some, Option.toList_none, List.cons_append, List.nil_append, s1_0, s1_1i, s1_1r, s1_1w, s1_1n, s1_s, s2_0, s2_1i, s2_1r, s2_1w, s2_1n, s2_s, gI_sI, gI_sR, gI_sL, gI_sD, gR_sI, gR_sR, gR_sL, gR_sD, gL_sI, gL_sR, gL_sL, gL_sD, gD_sI, gD_sR, gD_sL, gD_sD, isK_sI, isK_sR, isK_sL, isK_sD, inL_sI, inL_sR, inL_sL, inL_sD, nx_sI, nx_sR, nx_sL, nx_sD, kd_sI, kd_sR, kd_sL, kd_sD, ln_sI, ln_sR, ln_sL, ln_sD, ↓reduceIte, c8_n, c8_1, c8_2, c8_3, c8_4, Nat.reduceAdd, k_s S, k_land S, k_nodes S, k_hear S, k_routes S, k_traffic S, k_market S, g_cnt S, r_land S, r_routes S, r_traffic S, r_market S, r_nodes S, r_hear S, r_rland S, r_tland S, r_troutes S, q_areLinked _ S hi8 hj8, el, e1', hne, R.2.1, k_tab S R.t1, l_tab S R.t1 hb8, r_tab S R.t1 hb8, k_row S R.t1 hb8, l_row S R.t1 hb8 hj8, ii_nat (lt31 hb8), ii_nat (lt31 hj8), hd1, e8, h8]
      · obtain ⟨z1, z2⟩ := d5 (by omega)
        rw [z1, z2, ← fin (ii b) (ii (d + 1)) (some (.inl (ii b))) Q]
        simp only [↓e_Routes_renewPair_0, ↓e_Routes_renewPair_1, ↓e_Routes_renewPair_2, ↓e_Routes_renewPair_3, ↓e_Routes_renewPair_5, ↓e_Routes_renewPair_6, ↓e_Routes_renewPair_9, ↓e_Routes_renewPair_10, ↓e_Routes_renewPair_11, ↓e_Routes_renewPair_14, ↓e_Routes_renewPair_17, ↓e_Routes_renewPair_18, ↓e_Routes_renewPair_19, ↓e_Routes_renewPair_20, ↓e_Routes_renewPair_22, ↓e_Routes_renewPair_25, ↓e_Routes_renewPair_26, ↓e_Routes_renewPair_27, ↓e_Routes_renewPair_28, ↓e_Routes_renewPair_31, ↓e_Routes_renewPair_33, ↓e_Routes_renewPair_35, ↓e_Routes_renewPair_36, ↓e_Routes_renewPair_39, ↓e_Routes_renewPair_40, ↓e_Routes_renewPair_43, ↓e_Routes_renewPair_45, ↓e_Routes_renewPair_46, ↓e_Routes_renewPair_47, ↓e_Routes_renewPair_48, ↓e_Routes_renewPair_49, ↓e_Routes_renewPair_50, ↓e_Routes_renewPair_52, ↓e_Routes_renewPair_55, ↓e_Routes_renewPair_57, ↓e_Routes_renewPair_58, ↓e_Routes_renewPair_59, ↓e_Routes_renewPair_62, ↓e_Routes_renewPair_64, ↓e_Routes_renewPair_65, ↓e_Routes_renewPair_66, ↓e_Routes_renewPair_67, ↓e_Routes_renewPair_68, ↓e_Routes_renewPair_69, ↓e_Routes_renewPair_72, ↓e_Routes_renewPair_75, ↓e_Routes_renewPair_76, ↓e_Routes_renewPair_77, ↓e_Routes_renewPair_78, ↓e_Routes_renewPair_79, ↓e_Routes_renewPair_80, ↓e_Routes_renewPair_81, ↓e_Routes_renewPair_84, ↓e_Routes_renewPair_85, ↓e_Routes_renewPair_86, ↓e_Routes_renewPair_87, ↓e_Routes_renewPair_89, ↓e_Routes_renewPair_90, not_true_eq_false, not_false_eq_true, one0, true_or, or_true, eq_self, bI_z, bI_nz, bI_o, b_ft, bI_1, bI_0, ↓kC_l, ↓kC_r, Option.toList_some, Option.toList_none, List.cons_append, List.nil_append, s1_0, s1_1i, s1_1r, s1_1w, s1_1n, s1_s, s2_0, s2_1i, s2_1r, s2_1w, s2_1n, s2_s, gI_sI, gI_sR, gI_sL, gI_sD, gR_sI, gR_sR, gR_sL, gR_sD, gL_sI, gL_sR, gL_sL, gL_sD, gD_sI, gD_sR, gD_sL, gD_sD, isK_sI, isK_sR, isK_sL, isK_sD, inL_sI, inL_sR, inL_sL, inL_sD, nx_sI, nx_sR, nx_sL, nx_sD, kd_sI, kd_sR, kd_sL, kd_sD, ln_sI, ln_sR, ln_sL, ln_sD, ↓reduceIte, c8_n, c8_1, c8_2, c8_3, c8_4, Nat.reduceAdd, k_s S, k_land S, k_nodes S, k_hear S, k_routes S, k_traffic S, k_market S, g_cnt S, r_land S, r_routes S, r_traffic S, r_market S, r_nodes S, r_hear S, r_rland S, r_tland S, r_troutes S, q_areLinked _ S hi8 hj8, el, e1', hne, R.2.1, k_tab S R.t1, l_tab S R.t1 hb8, r_tab S R.t1 hb8, k_row S R.t1 hb8, l_row S R.t1 hb8 hj8, ii_nat (lt31 hb8), ii_nat (lt31 hj8), hd1, e8, h8]
theorem ai_rv (A : AI n h) (V : CA n h α) : Rv9 n α := fun i j hi hj => by
  rcases ai_rt A V hi hj with q | q
  · exact Or.inl ⟨q, (V.2.2.2.2.2.2.2.2 i hi).2 j hj q⟩
  · exact Or.inr q
theorem ca_diag (V : CA n h α) (hn : n ≤ 8) {i j : Nat} (hi : i < n) (hj : j < 8) (q : n ≤ j ∨ i = j) : α.1 (60 + i) j = -1 ∧ α.1 (70 + i) j = -1 := by
  obtain ⟨c, R, wv, w2, -⟩ := V.2.2.2.2.2.2.1
  obtain ⟨a, b⟩ := w2 i j (by omega) hj (Or.inr q)
  obtain ⟨x, y⟩ := wv i hi j hj
  exact ⟨x.symm.trans a, y.symm.trans b⟩
/-- the pairs up to a, b are renewed -/
def RW (n c : Nat) (α : As) (h g : Hp) (a b : Nat) : Prop := Fr wT nW nW h g ∧ (∀ i j, i < 8 → j < 8 → gI g (c + 1 + i) j = gI h (c + 1 + i) j ∧ gI g (c + 9 + 1 + i) j = gI h (c + 9 + 1 + i) j) ∧ ∀ i j, i < 8 → j < 8 → (dn9 n a b i j → gI g (174 - c + 1 + i) j = exv9 n α i j ∧ gI g (183 - c + 1 + i) j = (exq9 n α i j).1) ∧ (¬ dn9 n a b i j → gI g (174 - c + 1 + i) j = gI h (174 - c + 1 + i) j ∧ gI g (183 - c + 1 + i) j = gI h (183 - c + 1 + i) j)
theorem rw_ca {g : Hp} {a b : Nat} (V : CA n h α) (hn : n ≤ 8) {c : Nat} (R : Rt h c) (wv : Cw n h α c) (w2 : Cn n h c) (w3 : Cn n h (174 - c)) (W : RW n c α h g a b) : CA n g α ∧ Rt g c ∧ Cw n g α c ∧ Cn n g c ∧ Cn n g (174 - c) := by
  obtain ⟨F, W1, W2⟩ := W
  have hcc := R.1
  obtain ⟨v1, v2, v3, v4, ⟨v5, v6, v7⟩, v8, v9, v10, v11⟩ := V
  have eI : ∀ a k, ¬ (78 ≤ a ∧ a < 114) → gI g a k = gI h a k := fun a k q => F.1 a k q
  have eR : ∀ a k, gR g a k = gR h a k := fun a k => F.2.1 a k (fun w => w)
  have Rg : Rt g c := R.fr fun k => eR _ _
  have wg : Cw n g α c := fun i hi j hj => by
    obtain ⟨x, y⟩ := W1 i j (by omega) hj
    rw [x, y]
    exact wv i hi j hj
  have wg2 : Cn n g c := fun i j hi hj q => by
    obtain ⟨x, y⟩ := W1 i j hi hj
    rw [x, y]
    exact w2 i j hi hj q
  have wg3 : Cn n g (174 - c) := fun i j hi hj q => by
    obtain ⟨x, y⟩ := (W2 i j hi hj).2 (by unfold dn9; omega)
    obtain ⟨z1, z2⟩ := w3 i j hi hj q
    rw [show 174 - c + 9 + 1 + i = 183 - c + 1 + i by omega] at z2 ⊢
    exact ⟨x.trans z1, y.trans z2⟩
  exact ⟨⟨v1.fr fun i f hi hf => eI _ _ (by omega), fun i hi => (v2 i hi).fr (eI _ _ (by omega)) (fun a k _ _ => eI _ _ (by omega)) (fun k _ => eR _ _), v3.fr fun i k hi hk => eR _ _, fun j hj => (eI _ _ (by omega)).trans (v4 j hj), ⟨fun k h1 h2 => (eI _ _ (by omega)).trans (v5 k h1 h2), (eI _ _ (by omega)).trans v6, (eI _ _ (by omega)).trans v7⟩, fun i k hi hk => by
    have := v8 i k hi hk
    unfold mb at this ⊢
    rw [F.2.2.1 _ _ (fun w => w)]
    exact this, ⟨c, Rg, wg, wg2, wg3⟩, v10.fr fun i f _ _ => eI _ _ (by omega), v11⟩, Rg, wg, wg2, wg3⟩
theorem dn_s {A b a k : Nat} (h : A ≠ b) (hA : A < n) (hb : b < n) : dn9 n A (b + 1) a k ↔ (dn9 n A b a k ∨ (a = A ∧ k = b)) := by
  unfold dn9
  omega
theorem ca_renew (A : AI n h) (V : CA n h α) : ∃ h', (∀ Q, WP Gm j_Routes_renew 0 [some (.inr (.inl (some 77))), none, none] [] h Q = Q (.inl none) h') ∧ AI n h' ∧ CA n h' (asV (xo9 n α) 50 7 (α.1 50 7 + 1)) := by
  have S := A.1
  have hn := n8 S
  have Rv := ai_rv A V
  have hd : ∀ j, j < n → α.1 (70 + j) j = -1 := fun j hj => (ca_diag V hn hj (by omega) (Or.inr rfl)).2
  obtain ⟨c, R, wv, w2, w3⟩ := V.2.2.2.2.2.2.1
  have hcc := R.1
  suffices hh : ∃ h', (∀ Q, WP Gm j_Routes_renew 0 [some (.inr (.inl (some 77))), none, none] [] h Q = Q (.inl none) h') ∧ CA n h' (asV (xo9 n α) 50 7 (α.1 50 7 + 1)) by
    obtain ⟨-, ⟨Hg, c', R', I1, I2⟩, -⟩ := id A
    obtain ⟨g', r1, r2, r3, r4, r5, r6⟩ := q_renew S R' I1 I2 Hg
    obtain ⟨u, u1, u2⟩ := hh
    obtain ⟨-, rfl⟩ := det r1 u1
    have hc2 := R'.1
    exact ⟨g', r1, A.out r2 (fun a k w => by unfold wT at w; omega) (fun a k w => w.1) r3 ⟨Hg.fr fun k => r2.1 _ _ (by unfold wT; omega), 174 - c', r4, r5, by rw [show 174 - (174 - c') = c' by omega]; exact r6⟩, u2⟩
  have inner : ∀ i, i < n → ∀ (g : Hp), RW n c α h g i 0 → ∃ g', (∀ Q, WP Gm j_Routes_renew 15 [some (.inr (.inl (some 77))), some (.inl (ii i)), some (.inl (ii 0))] [] g Q = WP Gm j_Routes_renew 15 [some (.inr (.inl (some 77))), some (.inl (ii i)), some (.inl (ii n))] [] g' Q) ∧ RW n c α h g' i n := by
    intro i hi g W
    obtain ⟨g', e1, W'⟩ := loopR (fun Q k (g : Hp) => WP Gm j_Routes_renew 15 [some (.inr (.inl (some 77))), some (.inl (ii i)), some (.inl (ii k))] [] g Q) (fun k g => RW n c α h g i k) n
      (fun k g hk W => by
        have hk8 := lt_8 (n8 S) hk
        have hi8 : i < 8 := by omega
        have Sg : Str n g := S.fr W.1 (by unfold wT; omega)
        by_cases hik : i = k
        · refine ⟨g, fun Q => ?_, W.1, W.2.1, fun a b ha hb => ?_⟩
          · rw [e_Routes_renew_15]
            simp only [↓e_Routes_renew_0, ↓e_Routes_renew_1, ↓e_Routes_renew_2, ↓e_Routes_renew_3, ↓e_Routes_renew_4, ↓e_Routes_renew_7, ↓e_Routes_renew_10, ↓e_Routes_renew_13, ↓e_Routes_renew_14, ↓e_Routes_renew_16, ↓e_Routes_renew_17, ↓e_Routes_renew_20, ↓e_Routes_renew_23, ↓e_Routes_renew_26, ↓e_Routes_renew_27, ↓e_Routes_renew_28, ↓e_Routes_renew_31, ↓e_Routes_renew_32, ↓e_Routes_renew_33, ↓e_Routes_renew_34, ↓e_Routes_renew_37, ↓e_Routes_renew_40, ↓e_Routes_renew_43, ↓e_Routes_renew_46, ↓e_Routes_renew_49, ↓e_Routes_renew_50, ↓e_Routes_renew_53, ↓e_Routes_renew_54, ↓e_Routes_renew_55, ↓e_Routes_renew_58, ↓e_Routes_renew_59, ↓e_Routes_renew_60, ↓e_Routes_renew_61, ↓e_Routes_renew_64, ↓e_Routes_renew_67, ↓e_Routes_renew_68, ↓e_Routes_renew_69, ↓e_Routes_renew_72, ↓e_Routes_renew_75, ↓e_Routes_renew_76, ↓e_Routes_renew_77, ↓e_Routes_renew_80, ↓e_Routes_renew_81, ↓e_Routes_renew_82, ↓e_Routes_renew_85, ↓e_Routes_renew_86, ↓e_Routes_renew_87, ↓e_Routes_renew_90, ↓e_Routes_renew_91, ↓e_Routes_renew_92, ↓e_Routes_renew_95, not_true_eq_false, not_false_eq_true, one0, true_or, or_true, eq_self, bI_z, bI_nz, bI_o, b_ft, bI_1, bI_0, ↓kC_l, ↓kC_r, Option.toList_some, Option.toList_none, List.cons_append, List.nil_append, s1_0, s1_1i, s1_1r, s1_1w, s1_1n, s1_s, s2_0, s2_1i, s2_1r, s2_1w, s2_1n, s2_s, gI_sI, gI_sR, gI_sL, gI_sD, gR_sI, gR_sR, gR_sL, gR_sD, gL_sI, gL_sR, gL_sL, gL_sD, gD_sI, gD_sR, gD_sL, gD_sD, isK_sI, isK_sR, isK_sL, isK_sD, inL_sI, inL_sR, inL_sL, inL_sD, nx_sI, nx_sR, nx_sL, nx_sD, kd_sI, kd_sR, kd_sL, kd_sD, ln_sI, ln_sR, ln_sL, ln_sD, ↓reduceIte, c8_n, c8_1, c8_2, c8_3, c8_4, Nat.reduceAdd, k_s Sg, k_land Sg, k_nodes Sg, k_hear Sg, k_routes Sg, k_traffic Sg, k_market Sg, g_cnt Sg, r_land Sg, r_routes Sg, r_traffic Sg, r_market Sg, r_nodes Sg, r_hear Sg, r_rland Sg, r_tland Sg, r_troutes Sg, le_f (n8 S) hk, hik, ii_succ]
          · have e : dn9 n i (k + 1) a b ↔ dn9 n i k a b := by
              unfold dn9
              omega
            obtain ⟨x, y⟩ := W.2.2 a b ha hb
            exact ⟨fun q => x (e.mp q), fun q => y (fun w => q (e.mpr w))⟩
        · obtain ⟨Vg, Rg, wg, -, -⟩ := rw_ca V hn R wv w2 w3 W
          have q1 := ca_pair Vg Sg Rv hd Rg wg hi hk hik
          have hne : (ii i = ii k) = False := by rw [ii_inj (by omega) (by omega)]; exact eq_false hik
          obtain ⟨F, W1, W2⟩ := W
          have fr : ∀ a b, ¬ ((a = 183 - c + 1 + i ∨ a = 174 - c + 1 + i) ∧ b = k) → gI (sI (sI g (183 - c + 1 + i) k (exq9 n α i k).1) (174 - c + 1 + i) k (exv9 n α i k)) a b = gI g a b := fun a b q => by rw [gI_sI, if_neg (by omega), gI_sI, if_neg (by omega)]
          refine ⟨sI (sI g (183 - c + 1 + i) k (exq9 n α i k).1) (174 - c + 1 + i) k (exv9 n α i k), fun Q => ?_, (F.sI _ (by unfold wT; omega)).sI _ (by unfold wT; omega), fun a b ha hb => ?_, fun a b ha hb => ?_⟩
          · rw [e_Routes_renew_15]
            simp only [↓e_Routes_renew_0, ↓e_Routes_renew_1, ↓e_Routes_renew_2, ↓e_Routes_renew_3, ↓e_Routes_renew_4, ↓e_Routes_renew_7, ↓e_Routes_renew_10, ↓e_Routes_renew_13, ↓e_Routes_renew_14, ↓e_Routes_renew_16, ↓e_Routes_renew_17, ↓e_Routes_renew_20, ↓e_Routes_renew_23, ↓e_Routes_renew_26, ↓e_Routes_renew_27, ↓e_Routes_renew_28, ↓e_Routes_renew_31, ↓e_Routes_renew_32, ↓e_Routes_renew_33, ↓e_Routes_renew_34, ↓e_Routes_renew_37, ↓e_Routes_renew_40, ↓e_Routes_renew_43, ↓e_Routes_renew_46, ↓e_Routes_renew_49, ↓e_Routes_renew_50, ↓e_Routes_renew_53, ↓e_Routes_renew_54, ↓e_Routes_renew_55, ↓e_Routes_renew_58, ↓e_Routes_renew_59, ↓e_Routes_renew_60, ↓e_Routes_renew_61, ↓e_Routes_renew_64, ↓e_Routes_renew_67, ↓e_Routes_renew_68, ↓e_Routes_renew_69, ↓e_Routes_renew_72, ↓e_Routes_renew_75, ↓e_Routes_renew_76, ↓e_Routes_renew_77, ↓e_Routes_renew_80, ↓e_Routes_renew_81, ↓e_Routes_renew_82, ↓e_Routes_renew_85, ↓e_Routes_renew_86, ↓e_Routes_renew_87, ↓e_Routes_renew_90, ↓e_Routes_renew_91, ↓e_Routes_renew_92, ↓e_Routes_renew_95, not_true_eq_false, not_false_eq_true, one0, true_or, or_true, eq_self, bI_z, bI_nz, bI_o, b_ft, bI_1, bI_0, ↓kC_l, ↓kC_r, Option.toList_some, Option.toList_none, List.cons_append, List.nil_append, s1_0, s1_1i, s1_1r, s1_1w, s1_1n, s1_s, s2_0, s2_1i, s2_1r, s2_1w, s2_1n, s2_s, gI_sI, gI_sR, gI_sL, gI_sD, gR_sI, gR_sR, gR_sL, gR_sD, gL_sI, gL_sR, gL_sL, gL_sD, gD_sI, gD_sR, gD_sL, gD_sD, isK_sI, isK_sR, isK_sL, isK_sD, inL_sI, inL_sR, inL_sL, inL_sD, nx_sI, nx_sR, nx_sL, nx_sD, kd_sI, kd_sR, kd_sL, kd_sD, ln_sI, ln_sR, ln_sL, ln_sD, ↓reduceIte, c8_n, c8_1, c8_2, c8_3, c8_4, Nat.reduceAdd, k_s Sg, k_land Sg, k_nodes Sg, k_hear Sg, k_routes Sg, k_traffic Sg, k_market Sg, g_cnt Sg, r_land Sg, r_routes Sg, r_traffic Sg, r_market Sg, r_nodes Sg, r_hear Sg, r_rland Sg, r_tland Sg, r_troutes Sg, le_f (n8 S) hk, hne, ii_succ, q1]
          · rw [fr _ _ (by omega), fr _ _ (by omega)]
            exact W1 a b ha hb
          · obtain ⟨x, y⟩ := W2 a b ha hb
            have e := dn_s (n := n) (a := a) (k := b) hik hi hk
            by_cases e1 : a = i ∧ b = k
            · obtain ⟨rfl, rfl⟩ := e1
              refine ⟨fun _ => ⟨?_, ?_⟩, fun q => absurd (e.mpr (Or.inr ⟨rfl, rfl⟩)) q⟩
              · rw [gI_sI, if_pos ⟨rfl, rfl⟩]
              · rw [gI_sI, if_neg (by omega), gI_sI, if_pos ⟨rfl, rfl⟩]
            · rw [fr _ _ (by omega), fr _ _ (by omega)]
              exact ⟨fun q => x ((e.mp q).resolve_right e1), fun q => y (fun w => q (e.mpr (Or.inl w)))⟩) n 0 g (by omega) W
    exact ⟨g', e1, W'⟩
  obtain ⟨⟨g, w⟩, e1, W⟩ := loopR (fun Q k (a : Hp × Option MV) => WP Gm j_Routes_renew 2 [some (.inr (.inl (some 77))), some (.inl (ii k)), a.2] [] a.1 Q) (fun k a => RW n c α h a.1 k 0) n
    (fun k a hk W => by
      obtain ⟨g, w⟩ := a
      dsimp only at W ⊢
      have Sg : Str n g := S.fr W.1 (by unfold wT; omega)
      obtain ⟨g', q1, q2⟩ := inner k hk g W
      have Sg' : Str n g' := S.fr q2.1 (by unfold wT; omega)
      refine ⟨(g', some (.inl (ii n))), fun Q => ?_, q2.1, q2.2.1, fun a b ha hb => ?_⟩
      · rw [e_Routes_renew_2]
        simp only [↓e_Routes_renew_0, ↓e_Routes_renew_1, ↓e_Routes_renew_3, ↓e_Routes_renew_4, ↓e_Routes_renew_7, ↓e_Routes_renew_10, ↓e_Routes_renew_13, ↓e_Routes_renew_14, ↓e_Routes_renew_16, ↓e_Routes_renew_17, ↓e_Routes_renew_20, ↓e_Routes_renew_23, ↓e_Routes_renew_26, ↓e_Routes_renew_27, ↓e_Routes_renew_28, ↓e_Routes_renew_31, ↓e_Routes_renew_32, ↓e_Routes_renew_33, ↓e_Routes_renew_34, ↓e_Routes_renew_37, ↓e_Routes_renew_40, ↓e_Routes_renew_43, ↓e_Routes_renew_46, ↓e_Routes_renew_49, ↓e_Routes_renew_50, ↓e_Routes_renew_53, ↓e_Routes_renew_54, ↓e_Routes_renew_55, ↓e_Routes_renew_58, ↓e_Routes_renew_59, ↓e_Routes_renew_60, ↓e_Routes_renew_61, ↓e_Routes_renew_64, ↓e_Routes_renew_67, ↓e_Routes_renew_68, ↓e_Routes_renew_69, ↓e_Routes_renew_72, ↓e_Routes_renew_75, ↓e_Routes_renew_76, ↓e_Routes_renew_77, ↓e_Routes_renew_80, ↓e_Routes_renew_81, ↓e_Routes_renew_82, ↓e_Routes_renew_85, ↓e_Routes_renew_86, ↓e_Routes_renew_87, ↓e_Routes_renew_90, ↓e_Routes_renew_91, ↓e_Routes_renew_92, ↓e_Routes_renew_95, not_true_eq_false, not_false_eq_true, one0, true_or, or_true, eq_self, bI_z, bI_nz, bI_o, b_ft, bI_1, bI_0, ↓kC_l, ↓kC_r, Option.toList_some, Option.toList_none, List.cons_append, List.nil_append, s1_0, s1_1i, s1_1r, s1_1w, s1_1n, s1_s, s2_0, s2_1i, s2_1r, s2_1w, s2_1n, s2_s, gI_sI, gI_sR, gI_sL, gI_sD, gR_sI, gR_sR, gR_sL, gR_sD, gL_sI, gL_sR, gL_sL, gL_sD, gD_sI, gD_sR, gD_sL, gD_sD, isK_sI, isK_sR, isK_sL, isK_sD, inL_sI, inL_sR, inL_sL, inL_sD, nx_sI, nx_sR, nx_sL, nx_sD, kd_sI, kd_sR, kd_sL, kd_sD, ln_sI, ln_sR, ln_sL, ln_sD, ↓reduceIte, c8_n, c8_1, c8_2, c8_3, c8_4, Nat.reduceAdd, k_s Sg, k_land Sg, k_nodes Sg, k_hear Sg, k_routes Sg, k_traffic Sg, k_market Sg, g_cnt Sg, r_land Sg, r_routes Sg, r_traffic Sg, r_market Sg, r_nodes Sg, r_hear Sg, r_rland Sg, r_tland Sg, r_troutes Sg, le_f (n8 S) hk]
        refine (q1 Q).trans ?_
        rw [e_Routes_renew_15]
        simp only [↓e_Routes_renew_0, ↓e_Routes_renew_1, ↓e_Routes_renew_3, ↓e_Routes_renew_4, ↓e_Routes_renew_7, ↓e_Routes_renew_10, ↓e_Routes_renew_13, ↓e_Routes_renew_14, ↓e_Routes_renew_16, ↓e_Routes_renew_17, ↓e_Routes_renew_20, ↓e_Routes_renew_23, ↓e_Routes_renew_26, ↓e_Routes_renew_27, ↓e_Routes_renew_28, ↓e_Routes_renew_31, ↓e_Routes_renew_32, ↓e_Routes_renew_33, ↓e_Routes_renew_34, ↓e_Routes_renew_37, ↓e_Routes_renew_40, ↓e_Routes_renew_43, ↓e_Routes_renew_46, ↓e_Routes_renew_49, ↓e_Routes_renew_50, ↓e_Routes_renew_53, ↓e_Routes_renew_54, ↓e_Routes_renew_55, ↓e_Routes_renew_58, ↓e_Routes_renew_59, ↓e_Routes_renew_60, ↓e_Routes_renew_61, ↓e_Routes_renew_64, ↓e_Routes_renew_67, ↓e_Routes_renew_68, ↓e_Routes_renew_69, ↓e_Routes_renew_72, ↓e_Routes_renew_75, ↓e_Routes_renew_76, ↓e_Routes_renew_77, ↓e_Routes_renew_80, ↓e_Routes_renew_81, ↓e_Routes_renew_82, ↓e_Routes_renew_85, ↓e_Routes_renew_86, ↓e_Routes_renew_87, ↓e_Routes_renew_90, ↓e_Routes_renew_91, ↓e_Routes_renew_92, ↓e_Routes_renew_95, not_true_eq_false, not_false_eq_true, one0, true_or, or_true, eq_self, bI_z, bI_nz, bI_o, b_ft, bI_1, bI_0, ↓kC_l, ↓kC_r, Option.toList_some, Option.toList_none, List.cons_append, List.nil_append, s1_0, s1_1i, s1_1r, s1_1w, s1_1n, s1_s, s2_0, s2_1i, s2_1r, s2_1w, s2_1n, s2_s, gI_sI, gI_sR, gI_sL, gI_sD, gR_sI, gR_sR, gR_sL, gR_sD, gL_sI, gL_sR, gL_sL, gL_sD, gD_sI, gD_sR, gD_sL, gD_sD, isK_sI, isK_sR, isK_sL, isK_sD, inL_sI, inL_sR, inL_sL, inL_sD, nx_sI, nx_sR, nx_sL, nx_sD, kd_sI, kd_sR, kd_sL, kd_sD, ln_sI, ln_sR, ln_sL, ln_sD, ↓reduceIte, c8_n, c8_1, c8_2, c8_3, c8_4, Nat.reduceAdd, k_s Sg', k_land Sg', k_nodes Sg', k_hear Sg', k_routes Sg', k_traffic Sg', k_market Sg', g_cnt Sg', r_land Sg', r_routes Sg', r_traffic Sg', r_market Sg', r_nodes Sg', r_hear Sg', r_rland Sg', r_tland Sg', r_troutes Sg', le_t (n8 S), ii_succ]
      · have e : dn9 n (k + 1) 0 a b ↔ dn9 n k n a b := by
          unfold dn9
          omega
        obtain ⟨x, y⟩ := q2.2.2 a b ha hb
        exact ⟨fun q => x (e.mp q), fun q => y (fun w => q (e.mpr w))⟩) n 0 (h, none) (by omega) ⟨Fr.refl h, fun _ _ _ _ => ⟨rfl, rfl⟩, fun a b ha hb => ⟨fun q => by unfold dn9 at q; omega, fun _ => ⟨rfl, rfl⟩⟩⟩
  dsimp only at e1 W
  have Sg : Str n g := S.fr W.1 (by unfold wT; omega)
  obtain ⟨Vg, Rg, wg, wg2, wg3⟩ := rw_ca V hn R wv w2 w3 W
  obtain ⟨r0, r1, r2, r3, r4⟩ := id Rg
  have e75 : gI g 77 5 = α.1 50 7 := Vg.2.2.2.2.1.2.1
  generalize hh' : sI (sR (sR (sR (sR g 77 1 (some (174 - c))) 77 2 (some (183 - c))) 77 3 (some c)) 77 4 (some (c + 9))) 77 5 (α.1 50 7 + 1) = h'
  have F2 : Fr (fun a k => a = 77 ∧ k = 5) (fun a k => a = 77 ∧ 1 ≤ k) nW g h' := by
    rw [← hh']
    exact (((((Fr.refl g).sR _ ⟨rfl, by omega⟩).sR _ ⟨rfl, by omega⟩).sR _ ⟨rfl, by omega⟩).sR _ ⟨rfl, by omega⟩).sI _ ⟨rfl, rfl⟩
  have eI : ∀ a k, ¬ (a = 77 ∧ k = 5) → gI h' a k = gI g a k := fun a k q => F2.1 a k q
  have eR : ∀ a k, ¬ a = 77 → gR h' a k = gR g a k := fun a k q => F2.2.1 a k (fun w => q w.1)
  have R' : Rt h' (174 - c) := by
    refine ⟨by omega, ?_, ?_, ?_, ?_⟩
    · rw [← hh']; rfl
    · rw [← hh', show 174 - c + 9 = 183 - c by omega]; rfl
    · rw [← hh', show 174 - (174 - c) = c by omega]; rfl
    · rw [← hh', show 183 - (174 - c) = c + 9 by omega]; rfl
  refine ⟨h', fun Q => ?_, ?_⟩
  · have hh2 := hh'
    rw [← e75] at hh2
    simp only [↓e_Routes_renew_0, ↓e_Routes_renew_1, ↓e_Routes_renew_3, ↓e_Routes_renew_4, ↓e_Routes_renew_7, ↓e_Routes_renew_10, ↓e_Routes_renew_13, ↓e_Routes_renew_14, ↓e_Routes_renew_15, ↓e_Routes_renew_16, ↓e_Routes_renew_17, ↓e_Routes_renew_20, ↓e_Routes_renew_23, ↓e_Routes_renew_26, ↓e_Routes_renew_27, ↓e_Routes_renew_28, ↓e_Routes_renew_31, ↓e_Routes_renew_32, ↓e_Routes_renew_33, ↓e_Routes_renew_34, ↓e_Routes_renew_37, ↓e_Routes_renew_40, ↓e_Routes_renew_43, ↓e_Routes_renew_46, ↓e_Routes_renew_49, ↓e_Routes_renew_50, ↓e_Routes_renew_53, ↓e_Routes_renew_54, ↓e_Routes_renew_55, ↓e_Routes_renew_58, ↓e_Routes_renew_59, ↓e_Routes_renew_60, ↓e_Routes_renew_61, ↓e_Routes_renew_64, ↓e_Routes_renew_67, ↓e_Routes_renew_68, ↓e_Routes_renew_69, ↓e_Routes_renew_72, ↓e_Routes_renew_75, ↓e_Routes_renew_76, ↓e_Routes_renew_77, ↓e_Routes_renew_80, ↓e_Routes_renew_81, ↓e_Routes_renew_82, ↓e_Routes_renew_85, ↓e_Routes_renew_86, ↓e_Routes_renew_87, ↓e_Routes_renew_90, ↓e_Routes_renew_91, ↓e_Routes_renew_92, ↓e_Routes_renew_95, not_true_eq_false, not_false_eq_true, one0, true_or, or_true, eq_self, bI_z, bI_nz, bI_o, b_ft, bI_1, bI_0, ↓kC_l, ↓kC_r, Option.toList_some, Option.toList_none, List.cons_append, List.nil_append, s1_0, s1_1i, s1_1r, s1_1w, s1_1n, s1_s, s2_0, s2_1i, s2_1r, s2_1w, s2_1n, s2_s, gI_sI, gI_sR, gI_sL, gI_sD, gR_sI, gR_sR, gR_sL, gR_sD, gL_sI, gL_sR, gL_sL, gL_sD, gD_sI, gD_sR, gD_sL, gD_sD, isK_sI, isK_sR, isK_sL, isK_sD, inL_sI, inL_sR, inL_sL, inL_sD, nx_sI, nx_sR, nx_sL, nx_sD, kd_sI, kd_sR, kd_sL, kd_sD, ln_sI, ln_sR, ln_sL, ln_sD, ↓reduceIte, c8_n, c8_1, c8_2, c8_3, c8_4, Nat.reduceAdd]
    refine (e1 Q).trans ?_
    rw [e_Routes_renew_2]
    simp only [↓e_Routes_renew_0, ↓e_Routes_renew_1, ↓e_Routes_renew_3, ↓e_Routes_renew_4, ↓e_Routes_renew_7, ↓e_Routes_renew_10, ↓e_Routes_renew_13, ↓e_Routes_renew_14, ↓e_Routes_renew_15, ↓e_Routes_renew_16, ↓e_Routes_renew_17, ↓e_Routes_renew_20, ↓e_Routes_renew_23, ↓e_Routes_renew_26, ↓e_Routes_renew_27, ↓e_Routes_renew_28, ↓e_Routes_renew_31, ↓e_Routes_renew_32, ↓e_Routes_renew_33, ↓e_Routes_renew_34, ↓e_Routes_renew_37, ↓e_Routes_renew_40, ↓e_Routes_renew_43, ↓e_Routes_renew_46, ↓e_Routes_renew_49, ↓e_Routes_renew_50, ↓e_Routes_renew_53, ↓e_Routes_renew_54, ↓e_Routes_renew_55, ↓e_Routes_renew_58, ↓e_Routes_renew_59, ↓e_Routes_renew_60, ↓e_Routes_renew_61, ↓e_Routes_renew_64, ↓e_Routes_renew_67, ↓e_Routes_renew_68, ↓e_Routes_renew_69, ↓e_Routes_renew_72, ↓e_Routes_renew_75, ↓e_Routes_renew_76, ↓e_Routes_renew_77, ↓e_Routes_renew_80, ↓e_Routes_renew_81, ↓e_Routes_renew_82, ↓e_Routes_renew_85, ↓e_Routes_renew_86, ↓e_Routes_renew_87, ↓e_Routes_renew_90, ↓e_Routes_renew_91, ↓e_Routes_renew_92, ↓e_Routes_renew_95, not_true_eq_false, not_false_eq_true, one0, true_or, or_true, eq_self, bI_z, bI_nz, bI_o, b_ft, bI_1, bI_0, ↓kC_l, ↓kC_r, Option.toList_some, Option.toList_none, List.cons_append, List.nil_append, s1_0, s1_1i, s1_1r, s1_1w, s1_1n, s1_s, s2_0, s2_1i, s2_1r, s2_1w, s2_1n, s2_s, gI_sI, gI_sR, gI_sL, gI_sD, gR_sI, gR_sR, gR_sL, gR_sD, gL_sI, gL_sR, gL_sL, gL_sD, gD_sI, gD_sR, gD_sL, gD_sD, isK_sI, isK_sR, isK_sL, isK_sD, inL_sI, inL_sR, inL_sL, inL_sD, nx_sI, nx_sR, nx_sL, nx_sD, kd_sI, kd_sR, kd_sL, kd_sD, ln_sI, ln_sR, ln_sL, ln_sD, ↓reduceIte, c8_n, c8_1, c8_2, c8_3, c8_4, Nat.reduceAdd, k_s Sg, k_land Sg, k_nodes Sg, k_hear Sg, k_routes Sg, k_traffic Sg, k_market Sg, g_cnt Sg, r_land Sg, r_routes Sg, r_traffic Sg, r_market Sg, r_nodes Sg, r_hear Sg, r_rland Sg, r_tland Sg, r_troutes Sg, le_t (n8 S), r1, r2, r3, r4, (show ¬ (3 : Nat) = 1 by decide), (show ¬ (3 : Nat) = 2 by decide), (show ¬ (4 : Nat) = 1 by decide), (show ¬ (4 : Nat) = 2 by decide), (show ¬ (4 : Nat) = 3 by decide), (show ¬ (2 : Nat) = 1 by decide), and_false, e75, hh']
  · obtain ⟨v1, v2, v3, v4, ⟨v5, v6, v7⟩, v8, v9, v10, v11⟩ := Vg
    have nV : ∀ i k, i < 50 → (asV (xo9 n α) 50 7 (α.1 50 7 + 1)).1 i k = α.1 i k := fun i k hi => (asV_n _ _ (by omega)).trans (exp_V n α n 0 (by omega))
    have c60 : ∀ i k, i < n → (xo9 n α).1 (60 + i) k = if dn9 n n 0 i k then exv9 n α i k else α.1 (60 + i) k := fun i k hi => by
      show (if 60 ≤ 60 + i ∧ 60 + i < 68 ∧ dn9 n n 0 (60 + i - 60) k then exv9 n α (60 + i - 60) k else if 70 ≤ 60 + i ∧ 60 + i < 78 ∧ dn9 n n 0 (60 + i - 70) k then _ else α.1 (60 + i) k) = _
      rw [show 60 + i - 60 = i by omega]
      by_cases e : dn9 n n 0 i k
      · rw [if_pos ⟨by omega, by omega, e⟩, if_pos e]
      · rw [if_neg (fun w => e w.2.2), if_neg (by omega), if_neg e]
    have c70 : ∀ i k, i < n → (xo9 n α).1 (70 + i) k = if dn9 n n 0 i k then (exq9 n α i k).1 else α.1 (70 + i) k := fun i k hi => by
      show (if 60 ≤ 70 + i ∧ 70 + i < 68 ∧ dn9 n n 0 (70 + i - 60) k then _ else if 70 ≤ 70 + i ∧ 70 + i < 78 ∧ dn9 n n 0 (70 + i - 70) k then (exq9 n α (70 + i - 70) k).1 else α.1 (70 + i) k) = _
      rw [show 70 + i - 70 = i by omega, if_neg (by omega)]
      by_cases e : dn9 n n 0 i k
      · rw [if_pos ⟨by omega, by omega, e⟩, if_pos e]
      · rw [if_neg (fun w => e w.2.2), if_neg e]
    have nd : ∀ i j, i < n → j < 8 → ¬ dn9 n n 0 i j → n ≤ i ∨ n ≤ j ∨ i = j := fun i j hi hj q => by
      unfold dn9 at q
      omega
    have wn : Cw n h' (asV (xo9 n α) 50 7 (α.1 50 7 + 1)) (174 - c) := fun i hi j hj => by
      obtain ⟨x, y⟩ := W.2.2 i j (by omega) hj
      rw [asV_n _ _ (by omega), asV_n _ _ (by omega), c60 i j hi, c70 i j hi, eI _ _ (by omega), eI _ _ (by omega), show 174 - c + 9 + 1 + i = 183 - c + 1 + i by omega]
      by_cases e : dn9 n n 0 i j
      · rw [if_pos e, if_pos e]
        exact x e
      · rw [if_neg e, if_neg e]
        have q := nd i j hi hj e
        obtain ⟨z1, z2⟩ := wg3 i j (by omega) hj q
        obtain ⟨z3, z4⟩ := wg2 i j (by omega) hj q
        obtain ⟨z5, z6⟩ := wg i hi j hj
        rw [show 174 - c + 9 + 1 + i = 183 - c + 1 + i by omega] at z2
        exact ⟨z1.trans (z3.symm.trans z5), z2.trans (z4.symm.trans z6)⟩
    refine ⟨fun i hi f hf h4 => ?_, fun i hi => ?_, v3.fr fun i k _ _ => eR _ _ (by omega), fun j hj => ?_, ⟨fun k h1 h2 => ?_, ?_, ?_⟩, fun i k hi hk => ?_, ⟨174 - c, R', wn, fun i j hi hj q => ?_, fun i j hi hj q => ?_⟩, v10.fr fun i f _ _ => eI _ _ (by omega), fun i hi => ⟨?_, fun j hj q => ?_⟩⟩
    · rw [eI _ _ (by omega), nV _ _ (by omega)]; exact v1 i hi f hf h4
    · exact (v2 i hi).fr (eI _ _ (by omega)) (fun a k _ _ => eI _ _ (by omega)) (fun k _ => eR _ _ (by omega))
    · rw [eI _ _ (by omega), v4 j hj]
      exact (hs_congr (fun a k ha hk => nV a k (by omega)) hj).symm
    · rw [eI _ _ (by omega), asV_n _ _ (by omega), xo9, exp_V n α n 0 (by omega)]; exact v5 k h1 h2
    · rw [asV_s, ← hh', gI_sI, if_pos ⟨rfl, rfl⟩]
    · rw [eI _ _ (by omega), asV_n _ _ (by omega), xo9, exp_V n α n 0 (by omega)]; exact v7
    · show _ = α.2.2.2 i k
      rw [← v8 i k hi hk]
      unfold mb
      rw [F2.2.2.1 _ _ (fun w => w)]
    · rw [eI _ _ (by omega), eI _ _ (by omega)]; exact wg3 i j hi hj q
    · rw [eI _ _ (by omega), eI _ _ (by omega), show 174 - (174 - c) = c by omega]; exact wg2 i j hi hj q
    · rw [nV _ _ (by omega)]; exact (v11 i hi).1
    · rw [asV_n _ _ (by omega), c70 i j hi] at q
      rw [asV_n _ _ (by omega), c60 i j hi]
      by_cases e : dn9 n n 0 i j
      · rw [if_pos e] at q ⊢
        unfold exv9
        rw [if_pos q]
      · rw [if_neg e] at q ⊢
        exact (v11 i hi).2 j hj q
theorem asV_same (α : As) (i f : Nat) (v w : Int32) : asV (asV α i f v) i f w = asV α i f w := by
  refine Prod.ext (funext fun a => funext fun k => ?_) rfl
  show (if a = i ∧ k = f then w else if a = i ∧ k = f then v else α.1 a k) = (if a = i ∧ k = f then w else α.1 a k)
  split <;> rfl
theorem xo_c7 (n : Nat) (β : As) (v : Int32) : xo9 n (asV β 50 7 v) = asV (xo9 n β) 50 7 v := by
  have eh : ∀ i j, hr9 (asV β 50 7 v) i j = hr9 β i j := fun i j => hr_congr fun a k _ hk => asV_n _ _ (by omega)
  have e6 : ∀ i j, (asV β 50 7 v).1 (60 + i) j = β.1 (60 + i) j := fun i j => asV_n _ _ (by omega)
  have e7 : ∀ i j, (asV β 50 7 v).1 (70 + i) j = β.1 (70 + i) j := fun i j => asV_n _ _ (by omega)
  have es : ∀ a b k x, exs9 (asV β 50 7 v) a b k x = exs9 β a b k x := fun a b k x => by
    unfold exs9
    rw [eh, eh, e6, e7]
  have eq : ∀ a b, exq9 n (asV β 50 7 v) a b = exq9 n β a b := fun a b => by
    unfold exq9
    rw [eh, eh]
    exact upto_congr n 0 _ fun j x _ _ => es a b j x
  have ev : ∀ a b, exv9 n (asV β 50 7 v) a b = exv9 n β a b := fun a b => by
    unfold exv9
    rw [eq]
  refine Prod.ext (funext fun i => funext fun k => ?_) rfl
  show (if 60 ≤ i ∧ i < 68 ∧ dn9 n n 0 (i - 60) k then exv9 n (asV β 50 7 v) (i - 60) k else if 70 ≤ i ∧ i < 78 ∧ dn9 n n 0 (i - 70) k then (exq9 n (asV β 50 7 v) (i - 70) k).1 else if i = 50 ∧ k = 7 then v else β.1 i k) = (if i = 50 ∧ k = 7 then v else if 60 ≤ i ∧ i < 68 ∧ dn9 n n 0 (i - 60) k then exv9 n β (i - 60) k else if 70 ≤ i ∧ i < 78 ∧ dn9 n n 0 (i - 70) k then (exq9 n β (i - 70) k).1 else β.1 i k)
  rw [eq, ev]
  by_cases e : i = 50 ∧ k = 7
  · rw [if_neg (by omega), if_neg (by omega), if_pos e, if_pos e]
  · rw [if_neg e, if_neg e]
theorem upto_add {β : Type} (f : Nat → β → β) : ∀ (m d k : Nat) (a : β), upto f (m + d) k a = upto f d (k + m) (upto f m k a)
  | 0, d, k, a => by rw [Nat.zero_add]; rfl
  | m + 1, d, k, a => by
    rw [show m + 1 + d = (m + d) + 1 by omega]
    show upto f (m + d) (k + 1) (f k a) = upto f d (k + (m + 1)) (upto f m (k + 1) (f k a))
    rw [upto_add f m d (k + 1), show k + 1 + m = k + (m + 1) by omega]
theorem upto_id {β : Type} {f : Nat → β → β} : ∀ (m k : Nat) (a : β), (∀ j a, k ≤ j → j < k + m → f j a = a) → upto f m k a = a
  | 0, _, _, _ => rfl
  | m + 1, k, a, h => by
    show upto f m (k + 1) (f k a) = a
    rw [h k a (Nat.le_refl _) (by omega)]
    exact upto_id m (k + 1) a fun j b h1 h2 => h j b (by omega) (by omega)
theorem ca_pwr (V : CA n h α) (S : Str n h) : ∀ Q, WP Gm j_Routes_pairsWithRoute 0 [some (.inr (.inl (some 77))), none, none, none] [] h Q = Q (.inl (some (.inl (rt9 n α)))) h := by
  have hn := n8 S
  obtain ⟨c, R, wv, -⟩ := V.2.2.2.2.2.2.1
  have z0 : ∀ s : Int32, s + bI false = s := fun s => by rw [bI_0]; exact Int32.add_zero s
  obtain ⟨⟨v, w⟩, e1, hv⟩ := loopR (fun Q k (a : Int32 × Option MV) => WP Gm j_Routes_pairsWithRoute 4 [some (.inr (.inl (some 77))), some (.inl a.1), some (.inl (ii k)), a.2] [] h Q) (fun k a => a.1 = upto (fun k s => upto (fun j s => s + bI (!decide (α.1 (70 + k) j = -1))) 8 0 s) k 0 0) n
    (fun k a hk hI => by
      obtain ⟨v, w⟩ := a
      dsimp only at hI
      have hk8 := lt_8 (n8 S) hk
      obtain ⟨v', e2, hv'⟩ := loopR (fun Q m (v : Int32) => WP Gm j_Routes_pairsWithRoute 17 [some (.inr (.inl (some 77))), some (.inl v), some (.inl (ii k)), some (.inl (ii m))] [] h Q) (fun m x => x = upto (fun j s => s + bI (!decide (α.1 (70 + k) j = -1))) m 0 v) n
        (fun m x hm hx => by
          have hm8 := lt_8 (n8 S) hm
          have wr := (wv k hk m hm8).2
          rw [upto_end, Nat.zero_add, ← hx]
          by_cases hkm : k = m
          · have dg := (ca_diag V hn hk hm8 (Or.inr hkm)).2
            refine ⟨x, fun Q => ?_, by rw [decide_eq_true dg]; exact (z0 x).symm⟩
            rw [e_Routes_pairsWithRoute_17]
            simp only [↓e_Routes_pairsWithRoute_0, ↓e_Routes_pairsWithRoute_1, ↓e_Routes_pairsWithRoute_2, ↓e_Routes_pairsWithRoute_3, ↓e_Routes_pairsWithRoute_5, ↓e_Routes_pairsWithRoute_6, ↓e_Routes_pairsWithRoute_9, ↓e_Routes_pairsWithRoute_12, ↓e_Routes_pairsWithRoute_15, ↓e_Routes_pairsWithRoute_16, ↓e_Routes_pairsWithRoute_18, ↓e_Routes_pairsWithRoute_19, ↓e_Routes_pairsWithRoute_22, ↓e_Routes_pairsWithRoute_25, ↓e_Routes_pairsWithRoute_28, ↓e_Routes_pairsWithRoute_29, ↓e_Routes_pairsWithRoute_30, ↓e_Routes_pairsWithRoute_33, ↓e_Routes_pairsWithRoute_34, ↓e_Routes_pairsWithRoute_37, ↓e_Routes_pairsWithRoute_38, ↓e_Routes_pairsWithRoute_39, ↓e_Routes_pairsWithRoute_40, ↓e_Routes_pairsWithRoute_41, ↓e_Routes_pairsWithRoute_42, ↓e_Routes_pairsWithRoute_45, ↓e_Routes_pairsWithRoute_48, ↓e_Routes_pairsWithRoute_51, ↓e_Routes_pairsWithRoute_54, ↓e_Routes_pairsWithRoute_57, ↓e_Routes_pairsWithRoute_60, ↓e_Routes_pairsWithRoute_61, not_true_eq_false, not_false_eq_true, one0, true_or, or_true, eq_self, bI_z, bI_nz, bI_o, b_ft, bI_1, bI_0, ↓kC_l, ↓kC_r, Option.toList_some, Option.toList_none, List.cons_append, List.nil_append, s1_0, s1_1i, s1_1r, s1_1w, s1_1n, s1_s, s2_0, s2_1i, s2_1r, s2_1w, s2_1n, s2_s, gI_sI, gI_sR, gI_sL, gI_sD, gR_sI, gR_sR, gR_sL, gR_sD, gL_sI, gL_sR, gL_sL, gL_sD, gD_sI, gD_sR, gD_sL, gD_sD, isK_sI, isK_sR, isK_sL, isK_sD, inL_sI, inL_sR, inL_sL, inL_sD, nx_sI, nx_sR, nx_sL, nx_sD, kd_sI, kd_sR, kd_sL, kd_sD, ln_sI, ln_sR, ln_sL, ln_sD, ↓reduceIte, c8_n, c8_1, c8_2, c8_3, c8_4, Nat.reduceAdd, k_s S, k_land S, k_nodes S, k_hear S, k_routes S, k_traffic S, k_market S, g_cnt S, r_land S, r_routes S, r_traffic S, r_market S, r_nodes S, r_hear S, r_rland S, r_tland S, r_troutes S, le_f (n8 S) hm, hkm, ii_succ]
          · have hne : (ii k = ii m) = False := by rw [ii_inj (by omega) (by omega)]; exact eq_false hkm
            by_cases h1 : α.1 (70 + k) m = -1
            · refine ⟨x, fun Q => ?_, by rw [decide_eq_true h1]; exact (z0 x).symm⟩
              rw [e_Routes_pairsWithRoute_17]
              simp only [↓e_Routes_pairsWithRoute_0, ↓e_Routes_pairsWithRoute_1, ↓e_Routes_pairsWithRoute_2, ↓e_Routes_pairsWithRoute_3, ↓e_Routes_pairsWithRoute_5, ↓e_Routes_pairsWithRoute_6, ↓e_Routes_pairsWithRoute_9, ↓e_Routes_pairsWithRoute_12, ↓e_Routes_pairsWithRoute_15, ↓e_Routes_pairsWithRoute_16, ↓e_Routes_pairsWithRoute_18, ↓e_Routes_pairsWithRoute_19, ↓e_Routes_pairsWithRoute_22, ↓e_Routes_pairsWithRoute_25, ↓e_Routes_pairsWithRoute_28, ↓e_Routes_pairsWithRoute_29, ↓e_Routes_pairsWithRoute_30, ↓e_Routes_pairsWithRoute_33, ↓e_Routes_pairsWithRoute_34, ↓e_Routes_pairsWithRoute_37, ↓e_Routes_pairsWithRoute_38, ↓e_Routes_pairsWithRoute_39, ↓e_Routes_pairsWithRoute_40, ↓e_Routes_pairsWithRoute_41, ↓e_Routes_pairsWithRoute_42, ↓e_Routes_pairsWithRoute_45, ↓e_Routes_pairsWithRoute_48, ↓e_Routes_pairsWithRoute_51, ↓e_Routes_pairsWithRoute_54, ↓e_Routes_pairsWithRoute_57, ↓e_Routes_pairsWithRoute_60, ↓e_Routes_pairsWithRoute_61, not_true_eq_false, not_false_eq_true, one0, true_or, or_true, eq_self, bI_z, bI_nz, bI_o, b_ft, bI_1, bI_0, ↓kC_l, ↓kC_r, Option.toList_some, Option.toList_none, List.cons_append, List.nil_append, s1_0, s1_1i, s1_1r, s1_1w, s1_1n, s1_s, s2_0, s2_1i, s2_1r, s2_1w, s2_1n, s2_s, gI_sI, gI_sR, gI_sL, gI_sD, gR_sI, gR_sR, gR_sL, gR_sD, gL_sI, gL_sR, gL_sL, gL_sD, gD_sI, gD_sR, gD_sL, gD_sD, isK_sI, isK_sR, isK_sL, isK_sD, inL_sI, inL_sR, inL_sL, inL_sD, nx_sI, nx_sR, nx_sL, nx_sD, kd_sI, kd_sR, kd_sL, kd_sD, ln_sI, ln_sR, ln_sL, ln_sD, ↓reduceIte, c8_n, c8_1, c8_2, c8_3, c8_4, Nat.reduceAdd, k_s S, k_land S, k_nodes S, k_hear S, k_routes S, k_traffic S, k_market S, g_cnt S, r_land S, r_routes S, r_traffic S, r_market S, r_nodes S, r_hear S, r_rland S, r_tland S, r_troutes S, le_f (n8 S) hm, hne, ii_succ, R.2.2.1, k_tab S R.t2, l_tab S R.t2 hk8, r_tab S R.t2 hk8, k_row S R.t2 hk8, l_row S R.t2 hk8 hm8, ii_nat (lt31 hk8), ii_nat (lt31 hm8), wr, h1]
            · refine ⟨x + 1, fun Q => ?_, by rw [decide_eq_false h1]; rfl⟩
              rw [e_Routes_pairsWithRoute_17]
              simp only [↓e_Routes_pairsWithRoute_0, ↓e_Routes_pairsWithRoute_1, ↓e_Routes_pairsWithRoute_2, ↓e_Routes_pairsWithRoute_3, ↓e_Routes_pairsWithRoute_5, ↓e_Routes_pairsWithRoute_6, ↓e_Routes_pairsWithRoute_9, ↓e_Routes_pairsWithRoute_12, ↓e_Routes_pairsWithRoute_15, ↓e_Routes_pairsWithRoute_16, ↓e_Routes_pairsWithRoute_18, ↓e_Routes_pairsWithRoute_19, ↓e_Routes_pairsWithRoute_22, ↓e_Routes_pairsWithRoute_25, ↓e_Routes_pairsWithRoute_28, ↓e_Routes_pairsWithRoute_29, ↓e_Routes_pairsWithRoute_30, ↓e_Routes_pairsWithRoute_33, ↓e_Routes_pairsWithRoute_34, ↓e_Routes_pairsWithRoute_37, ↓e_Routes_pairsWithRoute_38, ↓e_Routes_pairsWithRoute_39, ↓e_Routes_pairsWithRoute_40, ↓e_Routes_pairsWithRoute_41, ↓e_Routes_pairsWithRoute_42, ↓e_Routes_pairsWithRoute_45, ↓e_Routes_pairsWithRoute_48, ↓e_Routes_pairsWithRoute_51, ↓e_Routes_pairsWithRoute_54, ↓e_Routes_pairsWithRoute_57, ↓e_Routes_pairsWithRoute_60, ↓e_Routes_pairsWithRoute_61, not_true_eq_false, not_false_eq_true, one0, true_or, or_true, eq_self, bI_z, bI_nz, bI_o, b_ft, bI_1, bI_0, ↓kC_l, ↓kC_r, Option.toList_some, Option.toList_none, List.cons_append, List.nil_append, s1_0, s1_1i, s1_1r, s1_1w, s1_1n, s1_s, s2_0, s2_1i, s2_1r, s2_1w, s2_1n, s2_s, gI_sI, gI_sR, gI_sL, gI_sD, gR_sI, gR_sR, gR_sL, gR_sD, gL_sI, gL_sR, gL_sL, gL_sD, gD_sI, gD_sR, gD_sL, gD_sD, isK_sI, isK_sR, isK_sL, isK_sD, inL_sI, inL_sR, inL_sL, inL_sD, nx_sI, nx_sR, nx_sL, nx_sD, kd_sI, kd_sR, kd_sL, kd_sD, ln_sI, ln_sR, ln_sL, ln_sD, ↓reduceIte, c8_n, c8_1, c8_2, c8_3, c8_4, Nat.reduceAdd, k_s S, k_land S, k_nodes S, k_hear S, k_routes S, k_traffic S, k_market S, g_cnt S, r_land S, r_routes S, r_traffic S, r_market S, r_nodes S, r_hear S, r_rland S, r_tland S, r_troutes S, le_f (n8 S) hm, hne, ii_succ, R.2.2.1, k_tab S R.t2, l_tab S R.t2 hk8, r_tab S R.t2 hk8, k_row S R.t2 hk8, l_row S R.t2 hk8 hm8, ii_nat (lt31 hk8), ii_nat (lt31 hm8), wr, h1]) n 0 v (by omega) rfl
      have e8 : upto (fun j s => s + bI (!decide (α.1 (70 + k) j = -1))) 8 0 v = v' := by
        have := upto_add (fun j s => s + bI (!decide (α.1 (70 + k) j = -1))) n (8 - n) 0 v
        rw [show n + (8 - n) = 8 by omega, ← hv'] at this
        rw [this]
        refine upto_id _ _ _ fun j a h1 h2 => ?_
        rw [decide_eq_true (ca_diag V hn hk (by omega) (Or.inl (by omega))).2]
        exact z0 a
      refine ⟨(v', some (.inl (ii n))), fun Q => ?_, by dsimp only; rw [upto_end, Nat.zero_add, ← hI, e8]⟩
      dsimp only
      rw [e_Routes_pairsWithRoute_4]
      simp only [↓e_Routes_pairsWithRoute_0, ↓e_Routes_pairsWithRoute_1, ↓e_Routes_pairsWithRoute_2, ↓e_Routes_pairsWithRoute_3, ↓e_Routes_pairsWithRoute_5, ↓e_Routes_pairsWithRoute_6, ↓e_Routes_pairsWithRoute_9, ↓e_Routes_pairsWithRoute_12, ↓e_Routes_pairsWithRoute_15, ↓e_Routes_pairsWithRoute_16, ↓e_Routes_pairsWithRoute_18, ↓e_Routes_pairsWithRoute_19, ↓e_Routes_pairsWithRoute_22, ↓e_Routes_pairsWithRoute_25, ↓e_Routes_pairsWithRoute_28, ↓e_Routes_pairsWithRoute_29, ↓e_Routes_pairsWithRoute_30, ↓e_Routes_pairsWithRoute_33, ↓e_Routes_pairsWithRoute_34, ↓e_Routes_pairsWithRoute_37, ↓e_Routes_pairsWithRoute_38, ↓e_Routes_pairsWithRoute_39, ↓e_Routes_pairsWithRoute_40, ↓e_Routes_pairsWithRoute_41, ↓e_Routes_pairsWithRoute_42, ↓e_Routes_pairsWithRoute_45, ↓e_Routes_pairsWithRoute_48, ↓e_Routes_pairsWithRoute_51, ↓e_Routes_pairsWithRoute_54, ↓e_Routes_pairsWithRoute_57, ↓e_Routes_pairsWithRoute_60, ↓e_Routes_pairsWithRoute_61, not_true_eq_false, not_false_eq_true, one0, true_or, or_true, eq_self, bI_z, bI_nz, bI_o, b_ft, bI_1, bI_0, ↓kC_l, ↓kC_r, Option.toList_some, Option.toList_none, List.cons_append, List.nil_append, s1_0, s1_1i, s1_1r, s1_1w, s1_1n, s1_s, s2_0, s2_1i, s2_1r, s2_1w, s2_1n, s2_s, gI_sI, gI_sR, gI_sL, gI_sD, gR_sI, gR_sR, gR_sL, gR_sD, gL_sI, gL_sR, gL_sL, gL_sD, gD_sI, gD_sR, gD_sL, gD_sD, isK_sI, isK_sR, isK_sL, isK_sD, inL_sI, inL_sR, inL_sL, inL_sD, nx_sI, nx_sR, nx_sL, nx_sD, kd_sI, kd_sR, kd_sL, kd_sD, ln_sI, ln_sR, ln_sL, ln_sD, ↓reduceIte, c8_n, c8_1, c8_2, c8_3, c8_4, Nat.reduceAdd, k_s S, k_land S, k_nodes S, k_hear S, k_routes S, k_traffic S, k_market S, g_cnt S, r_land S, r_routes S, r_traffic S, r_market S, r_nodes S, r_hear S, r_rland S, r_tland S, r_troutes S, le_f (n8 S) hk]
      refine (e2 Q).trans ?_
      rw [e_Routes_pairsWithRoute_17]
      simp only [↓e_Routes_pairsWithRoute_0, ↓e_Routes_pairsWithRoute_1, ↓e_Routes_pairsWithRoute_2, ↓e_Routes_pairsWithRoute_3, ↓e_Routes_pairsWithRoute_5, ↓e_Routes_pairsWithRoute_6, ↓e_Routes_pairsWithRoute_9, ↓e_Routes_pairsWithRoute_12, ↓e_Routes_pairsWithRoute_15, ↓e_Routes_pairsWithRoute_16, ↓e_Routes_pairsWithRoute_18, ↓e_Routes_pairsWithRoute_19, ↓e_Routes_pairsWithRoute_22, ↓e_Routes_pairsWithRoute_25, ↓e_Routes_pairsWithRoute_28, ↓e_Routes_pairsWithRoute_29, ↓e_Routes_pairsWithRoute_30, ↓e_Routes_pairsWithRoute_33, ↓e_Routes_pairsWithRoute_34, ↓e_Routes_pairsWithRoute_37, ↓e_Routes_pairsWithRoute_38, ↓e_Routes_pairsWithRoute_39, ↓e_Routes_pairsWithRoute_40, ↓e_Routes_pairsWithRoute_41, ↓e_Routes_pairsWithRoute_42, ↓e_Routes_pairsWithRoute_45, ↓e_Routes_pairsWithRoute_48, ↓e_Routes_pairsWithRoute_51, ↓e_Routes_pairsWithRoute_54, ↓e_Routes_pairsWithRoute_57, ↓e_Routes_pairsWithRoute_60, ↓e_Routes_pairsWithRoute_61, not_true_eq_false, not_false_eq_true, one0, true_or, or_true, eq_self, bI_z, bI_nz, bI_o, b_ft, bI_1, bI_0, ↓kC_l, ↓kC_r, Option.toList_some, Option.toList_none, List.cons_append, List.nil_append, s1_0, s1_1i, s1_1r, s1_1w, s1_1n, s1_s, s2_0, s2_1i, s2_1r, s2_1w, s2_1n, s2_s, gI_sI, gI_sR, gI_sL, gI_sD, gR_sI, gR_sR, gR_sL, gR_sD, gL_sI, gL_sR, gL_sL, gL_sD, gD_sI, gD_sR, gD_sL, gD_sD, isK_sI, isK_sR, isK_sL, isK_sD, inL_sI, inL_sR, inL_sL, inL_sD, nx_sI, nx_sR, nx_sL, nx_sD, kd_sI, kd_sR, kd_sL, kd_sD, ln_sI, ln_sR, ln_sL, ln_sD, ↓reduceIte, c8_n, c8_1, c8_2, c8_3, c8_4, Nat.reduceAdd, k_s S, k_land S, k_nodes S, k_hear S, k_routes S, k_traffic S, k_market S, g_cnt S, r_land S, r_routes S, r_traffic S, r_market S, r_nodes S, r_hear S, r_rland S, r_tland S, r_troutes S, le_t (n8 S), ii_succ]) n 0 (0, none) (by omega) rfl
  intro Q
  have hv' : v = rt9 n α := hv
  rw [← hv']
  simp only [↓e_Routes_pairsWithRoute_0, ↓e_Routes_pairsWithRoute_1, ↓e_Routes_pairsWithRoute_2, ↓e_Routes_pairsWithRoute_3, ↓e_Routes_pairsWithRoute_5, ↓e_Routes_pairsWithRoute_6, ↓e_Routes_pairsWithRoute_9, ↓e_Routes_pairsWithRoute_12, ↓e_Routes_pairsWithRoute_15, ↓e_Routes_pairsWithRoute_16, ↓e_Routes_pairsWithRoute_18, ↓e_Routes_pairsWithRoute_19, ↓e_Routes_pairsWithRoute_22, ↓e_Routes_pairsWithRoute_25, ↓e_Routes_pairsWithRoute_28, ↓e_Routes_pairsWithRoute_29, ↓e_Routes_pairsWithRoute_30, ↓e_Routes_pairsWithRoute_33, ↓e_Routes_pairsWithRoute_34, ↓e_Routes_pairsWithRoute_37, ↓e_Routes_pairsWithRoute_38, ↓e_Routes_pairsWithRoute_39, ↓e_Routes_pairsWithRoute_40, ↓e_Routes_pairsWithRoute_41, ↓e_Routes_pairsWithRoute_42, ↓e_Routes_pairsWithRoute_45, ↓e_Routes_pairsWithRoute_48, ↓e_Routes_pairsWithRoute_51, ↓e_Routes_pairsWithRoute_54, ↓e_Routes_pairsWithRoute_57, ↓e_Routes_pairsWithRoute_60, ↓e_Routes_pairsWithRoute_61, not_true_eq_false, not_false_eq_true, one0, true_or, or_true, eq_self, bI_z, bI_nz, bI_o, b_ft, bI_1, bI_0, ↓kC_l, ↓kC_r, Option.toList_some, Option.toList_none, List.cons_append, List.nil_append, s1_0, s1_1i, s1_1r, s1_1w, s1_1n, s1_s, s2_0, s2_1i, s2_1r, s2_1w, s2_1n, s2_s, gI_sI, gI_sR, gI_sL, gI_sD, gR_sI, gR_sR, gR_sL, gR_sD, gL_sI, gL_sR, gL_sL, gL_sD, gD_sI, gD_sR, gD_sL, gD_sD, isK_sI, isK_sR, isK_sL, isK_sD, inL_sI, inL_sR, inL_sL, inL_sD, nx_sI, nx_sR, nx_sL, nx_sD, kd_sI, kd_sR, kd_sL, kd_sD, ln_sI, ln_sR, ln_sL, ln_sD, ↓reduceIte, c8_n, c8_1, c8_2, c8_3, c8_4, Nat.reduceAdd]
  refine (e1 Q).trans ?_
  rw [e_Routes_pairsWithRoute_4]
  simp only [↓e_Routes_pairsWithRoute_0, ↓e_Routes_pairsWithRoute_1, ↓e_Routes_pairsWithRoute_2, ↓e_Routes_pairsWithRoute_3, ↓e_Routes_pairsWithRoute_5, ↓e_Routes_pairsWithRoute_6, ↓e_Routes_pairsWithRoute_9, ↓e_Routes_pairsWithRoute_12, ↓e_Routes_pairsWithRoute_15, ↓e_Routes_pairsWithRoute_16, ↓e_Routes_pairsWithRoute_18, ↓e_Routes_pairsWithRoute_19, ↓e_Routes_pairsWithRoute_22, ↓e_Routes_pairsWithRoute_25, ↓e_Routes_pairsWithRoute_28, ↓e_Routes_pairsWithRoute_29, ↓e_Routes_pairsWithRoute_30, ↓e_Routes_pairsWithRoute_33, ↓e_Routes_pairsWithRoute_34, ↓e_Routes_pairsWithRoute_37, ↓e_Routes_pairsWithRoute_38, ↓e_Routes_pairsWithRoute_39, ↓e_Routes_pairsWithRoute_40, ↓e_Routes_pairsWithRoute_41, ↓e_Routes_pairsWithRoute_42, ↓e_Routes_pairsWithRoute_45, ↓e_Routes_pairsWithRoute_48, ↓e_Routes_pairsWithRoute_51, ↓e_Routes_pairsWithRoute_54, ↓e_Routes_pairsWithRoute_57, ↓e_Routes_pairsWithRoute_60, ↓e_Routes_pairsWithRoute_61, not_true_eq_false, not_false_eq_true, one0, true_or, or_true, eq_self, bI_z, bI_nz, bI_o, b_ft, bI_1, bI_0, ↓kC_l, ↓kC_r, Option.toList_some, Option.toList_none, List.cons_append, List.nil_append, s1_0, s1_1i, s1_1r, s1_1w, s1_1n, s1_s, s2_0, s2_1i, s2_1r, s2_1w, s2_1n, s2_s, gI_sI, gI_sR, gI_sL, gI_sD, gR_sI, gR_sR, gR_sL, gR_sD, gL_sI, gL_sR, gL_sL, gL_sD, gD_sI, gD_sR, gD_sL, gD_sD, isK_sI, isK_sR, isK_sL, isK_sD, inL_sI, inL_sR, inL_sL, inL_sD, nx_sI, nx_sR, nx_sL, nx_sD, kd_sI, kd_sR, kd_sL, kd_sD, ln_sI, ln_sR, ln_sL, ln_sD, ↓reduceIte, c8_n, c8_1, c8_2, c8_3, c8_4, Nat.reduceAdd, k_s S, k_land S, k_nodes S, k_hear S, k_routes S, k_traffic S, k_market S, g_cnt S, r_land S, r_routes S, r_traffic S, r_market S, r_nodes S, r_hear S, r_rland S, r_tland S, r_troutes S, le_t (n8 S)]
theorem vx_exchange (A : AI n h) (V : CA n h α) (hr : okR cM sM h 1 6 = true) (x : Int32) : ∃ rs h', (∀ Q, WP Gm j_S_exchange 0 [some (.inr (.inl (some 1))), some (.inl x), none] [] h Q = Q rs h') ∧ vr9 mB9 rs (exc9 n α x) ∧ CA n h' (exc9 n α x).2.2 := by
  have S := A.1
  have hn := n8 S
  unfold exc9
  cases e1 : (decide (1 ≤ x) && decide (x ≤ 10)) with
  | false =>
    rw [if_pos rfl]
    refine ⟨.inr 0, _, fun Q => ?_, Or.inr ⟨0, by omega, rfl, rfl⟩, V.ex S (Ex.hN h kc_IllegalArgumentException 0 6)⟩
    simp only [↓e_S_exchange_0, ↓e_S_exchange_1, ↓e_S_exchange_2, ↓e_S_exchange_4, ↓e_S_exchange_7, ↓e_S_exchange_10, ↓e_S_exchange_20, ↓e_S_exchange_21, ↓e_S_exchange_22, ↓e_S_exchange_23, ↓e_S_exchange_24, ↓e_S_exchange_27, ↓e_S_exchange_28, ↓e_S_exchange_31, ↓e_S_exchange_34, ↓e_S_exchange_37, ↓e_S_exchange_40, ↓e_S_exchange_41, ↓e_S_exchange_44, ↓e_S_exchange_47, not_true_eq_false, not_false_eq_true, one0, true_or, or_true, eq_self, bI_z, bI_nz, bI_o, b_ft, bI_1, bI_0, ↓kC_l, ↓kC_r, Option.toList_some, Option.toList_none, List.cons_append, List.nil_append, s1_0, s1_1i, s1_1r, s1_1w, s1_1n, s1_s, s2_0, s2_1i, s2_1r, s2_1w, s2_1n, s2_s, gI_sI, gI_sR, gI_sL, gI_sD, gR_sI, gR_sR, gR_sL, gR_sD, gL_sI, gL_sR, gL_sL, gL_sD, gD_sI, gD_sR, gD_sL, gD_sD, isK_sI, isK_sR, isK_sL, isK_sD, inL_sI, inL_sR, inL_sL, inL_sD, nx_sI, nx_sR, nx_sL, nx_sD, kd_sI, kd_sR, kd_sL, kd_sD, ln_sI, ln_sR, ln_sL, ln_sD, ↓reduceIte, c8_n, c8_1, c8_2, c8_3, c8_4, Nat.reduceAdd, k_s S, k_land S, k_nodes S, k_hear S, k_routes S, k_traffic S, k_market S, g_cnt S, r_land S, r_routes S, r_traffic S, r_market S, r_nodes S, r_hear S, r_rland S, r_tland S, r_troutes S, q_isWithin, e1, hr]
  | true =>
    rw [if_neg (by decide)]
    obtain ⟨t, t1, t2, rfl⟩ := i32_cases1 (a := 1) (b := 10) (by omega) e1 (by omega)
    rw [tn_ii (show t < 2147483648 by omega)]
    obtain ⟨g, q1, A', V'⟩ := loopR (fun Q k (g : Hp) => WP Gm j_S_exchange 22 [some (.inr (.inl (some 1))), some (.inl (ii t)), some (.inl (ii k))] [] g Q) (fun k g => AI n g ∧ CA n g (asV (xs9 n k α) 50 7 (α.1 50 7 + ii k))) t
      (fun k g hk hI => by
        obtain ⟨Ag, Vg⟩ := hI
        obtain ⟨g', r1, r2, r3⟩ := ca_renew Ag Vg
        refine ⟨g', fun Q => ?_, r2, ?_⟩
        · rw [e_S_exchange_22]
          simp only [↓e_S_exchange_0, ↓e_S_exchange_1, ↓e_S_exchange_2, ↓e_S_exchange_4, ↓e_S_exchange_7, ↓e_S_exchange_10, ↓e_S_exchange_20, ↓e_S_exchange_21, ↓e_S_exchange_23, ↓e_S_exchange_24, ↓e_S_exchange_27, ↓e_S_exchange_28, ↓e_S_exchange_31, ↓e_S_exchange_34, ↓e_S_exchange_37, ↓e_S_exchange_40, ↓e_S_exchange_41, ↓e_S_exchange_44, ↓e_S_exchange_47, not_true_eq_false, not_false_eq_true, one0, true_or, or_true, eq_self, bI_z, bI_nz, bI_o, b_ft, bI_1, bI_0, ↓kC_l, ↓kC_r, Option.toList_some, Option.toList_none, List.cons_append, List.nil_append, s1_0, s1_1i, s1_1r, s1_1w, s1_1n, s1_s, s2_0, s2_1i, s2_1r, s2_1w, s2_1n, s2_s, gI_sI, gI_sR, gI_sL, gI_sD, gR_sI, gR_sR, gR_sL, gR_sD, gL_sI, gL_sR, gL_sL, gL_sD, gD_sI, gD_sR, gD_sL, gD_sD, isK_sI, isK_sR, isK_sL, isK_sD, inL_sI, inL_sR, inL_sL, inL_sD, nx_sI, nx_sR, nx_sL, nx_sD, kd_sI, kd_sR, kd_sL, kd_sD, ln_sI, ln_sR, ln_sL, ln_sD, ↓reduceIte, c8_n, c8_1, c8_2, c8_3, c8_4, Nat.reduceAdd, k_s Ag.1, k_land Ag.1, k_nodes Ag.1, k_hear Ag.1, k_routes Ag.1, k_traffic Ag.1, k_market Ag.1, g_cnt Ag.1, r_land Ag.1, r_routes Ag.1, r_traffic Ag.1, r_market Ag.1, r_nodes Ag.1, r_hear Ag.1, r_rland Ag.1, r_tland Ag.1, r_troutes Ag.1, lle_f (show t < 2147483648 by omega) hk, r1, ii_succ]
        · rw [xo_c7, asV_same, asV_s, Int32.add_assoc, ii_succ] at r3
          exact r3) t 0 h (by omega) ⟨A, by
        have e0 : α.1 50 7 + ii 0 = α.1 50 7 := Int32.add_zero _
        rw [e0]
        show CA n h (asV α 50 7 (α.1 50 7))
        rw [asV_id]
        exact V⟩
    have ew : α.1 50 7 = (xs9 n t α).1 50 7 := (xs_51 n α (by omega) t).symm
    rw [ew] at V'
    have er : rt9 n (asV (xs9 n t α) 50 7 ((xs9 n t α).1 50 7 + ii t)) = rt9 n (xs9 n t α) := by
      unfold rt9
      refine upto_congr n 0 0 fun k s _ _ => upto_congr 8 0 s fun j s _ _ => ?_
      rw [asV_n _ _ (by omega)]
    have hv := ca_pwr V' A'.1
    rw [er] at hv
    refine ⟨.inl (some (.inl (rt9 n (xs9 n t α)))), g, fun Q => ?_, Or.inl ⟨rfl, rfl⟩, V'⟩
    simp only [↓e_S_exchange_0, ↓e_S_exchange_1, ↓e_S_exchange_2, ↓e_S_exchange_4, ↓e_S_exchange_7, ↓e_S_exchange_10, ↓e_S_exchange_20, ↓e_S_exchange_21, ↓e_S_exchange_23, ↓e_S_exchange_24, ↓e_S_exchange_27, ↓e_S_exchange_28, ↓e_S_exchange_31, ↓e_S_exchange_34, ↓e_S_exchange_37, ↓e_S_exchange_40, ↓e_S_exchange_41, ↓e_S_exchange_44, ↓e_S_exchange_47, not_true_eq_false, not_false_eq_true, one0, true_or, or_true, eq_self, bI_z, bI_nz, bI_o, b_ft, bI_1, bI_0, ↓kC_l, ↓kC_r, Option.toList_some, Option.toList_none, List.cons_append, List.nil_append, s1_0, s1_1i, s1_1r, s1_1w, s1_1n, s1_s, s2_0, s2_1i, s2_1r, s2_1w, s2_1n, s2_s, gI_sI, gI_sR, gI_sL, gI_sD, gR_sI, gR_sR, gR_sL, gR_sD, gL_sI, gL_sR, gL_sL, gL_sD, gD_sI, gD_sR, gD_sL, gD_sD, isK_sI, isK_sR, isK_sL, isK_sD, inL_sI, inL_sR, inL_sL, inL_sD, nx_sI, nx_sR, nx_sL, nx_sD, kd_sI, kd_sR, kd_sL, kd_sD, ln_sI, ln_sR, ln_sL, ln_sD, ↓reduceIte, c8_n, c8_1, c8_2, c8_3, c8_4, Nat.reduceAdd, k_s S, k_land S, k_nodes S, k_hear S, k_routes S, k_traffic S, k_market S, g_cnt S, r_land S, r_routes S, r_traffic S, r_market S, r_nodes S, r_hear S, r_rland S, r_tland S, r_troutes S, q_isWithin, e1, Bool.true_eq_false]
    refine (q1 Q).trans ?_
    rw [e_S_exchange_22]
    simp only [↓e_S_exchange_0, ↓e_S_exchange_1, ↓e_S_exchange_2, ↓e_S_exchange_4, ↓e_S_exchange_7, ↓e_S_exchange_10, ↓e_S_exchange_20, ↓e_S_exchange_21, ↓e_S_exchange_23, ↓e_S_exchange_24, ↓e_S_exchange_27, ↓e_S_exchange_28, ↓e_S_exchange_31, ↓e_S_exchange_34, ↓e_S_exchange_37, ↓e_S_exchange_40, ↓e_S_exchange_41, ↓e_S_exchange_44, ↓e_S_exchange_47, not_true_eq_false, not_false_eq_true, one0, true_or, or_true, eq_self, bI_z, bI_nz, bI_o, b_ft, bI_1, bI_0, ↓kC_l, ↓kC_r, Option.toList_some, Option.toList_none, List.cons_append, List.nil_append, s1_0, s1_1i, s1_1r, s1_1w, s1_1n, s1_s, s2_0, s2_1i, s2_1r, s2_1w, s2_1n, s2_s, gI_sI, gI_sR, gI_sL, gI_sD, gR_sI, gR_sR, gR_sL, gR_sD, gL_sI, gL_sR, gL_sL, gL_sD, gD_sI, gD_sR, gD_sL, gD_sD, isK_sI, isK_sR, isK_sL, isK_sD, inL_sI, inL_sR, inL_sL, inL_sD, nx_sI, nx_sR, nx_sL, nx_sD, kd_sI, kd_sR, kd_sL, kd_sD, ln_sI, ln_sR, ln_sL, ln_sD, ↓reduceIte, c8_n, c8_1, c8_2, c8_3, c8_4, Nat.reduceAdd, k_s A'.1, k_land A'.1, k_nodes A'.1, k_hear A'.1, k_routes A'.1, k_traffic A'.1, k_market A'.1, g_cnt A'.1, r_land A'.1, r_routes A'.1, r_traffic A'.1, r_market A'.1, r_nodes A'.1, r_hear A'.1, r_rland A'.1, r_tland A'.1, r_troutes A'.1, lle_t (show t < 2147483648 by omega), hv]
end XC6
