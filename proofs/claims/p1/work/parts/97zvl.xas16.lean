/-! xas16: cover in values -/
def cvU (α : As) (n : Nat) (s : Int32) (k : Nat) : Bool := upto (fun j b => b || (tb s j && hr9 α k j)) n 0 (tb s k)
def cov9 (n : Nat) (α : As) (s : Int32) : Bool := !exUp (fun k => !cvU α n s k) n 0
def cvr9 (n : Nat) (α : As) : Int32 := upto (fun k b => if (decide (pcI (ii k) < pcI b) && cov9 n α (ii k)) = true then ii k else b) (2 ^ n - 1) 0 (ii (2 ^ n - 1))
def pcN (s : Nat) : Int := (pcI (ii s)).toInt
/-- the best that c allows: the least by q, of these the first -/
def Bst (c : Nat → Bool) (q : Nat → Int) (N r : Nat) : Prop := r ≤ N ∧ c r = true ∧ ∀ s, s ≤ N → c s = true → q r ≤ q s ∧ (s < r → q r < q s)
theorem Bst.uniq {c : Nat → Bool} {q : Nat → Int} {N r t : Nat} (a : Bst c q N r) (b : Bst c q N t) : r = t := by
  obtain ⟨a1, a2, a3⟩ := a
  obtain ⟨b1, b2, b3⟩ := b
  have x := a3 t b1 b2
  have y := b3 r a1 a2
  by_cases e : t < r
  · have := x.2 e
    omega
  · by_cases e2 : r < t
    · have := y.2 e2
      omega
    · omega
theorem pc_top : ∀ n, n ≤ 8 → ∀ k, k < 2 ^ n - 1 → pcI (ii k) < pcI (ii (2 ^ n - 1)) := by decide +kernel
theorem i32_ext {a b : Int32} (h : ∀ i, i < 32 → tb a i = tb b i) : a = b := by
  apply Int32.toBitVec_inj.mp
  apply BitVec.eq_of_getLsbD_eq
  intro i hi
  rw [← tb_bv a hi, ← tb_bv b hi]
  exact h i hi
theorem or_up {f : Nat → Bool} : ∀ m k, upto (fun j b => b || f j) m k true = true
  | 0, _ => rfl
  | m + 1, k => by
    show upto (fun j b => b || f j) m (k + 1) (true || f k) = true
    rw [Bool.true_or]
    exact or_up m (k + 1)
theorem tb_ones {n i : Nat} (hi : i < 32) : tb (ii (2 ^ n - 1)) i = decide (i < n) := by
  rw [tb_ii _ hi, Nat.testBit_two_pow_sub_one]
theorem cov_iff {α : As} {n : Nat} {s : Int32} : cov9 n α s = true ↔ ∀ k, k < n → cvU α n s k = true := by
  unfold cov9
  rw [Bool.not_eq_true']
  constructor
  · intro h k hk
    cases e : cvU α n s k with
    | true => rfl
    | false =>
      have : exUp (fun k => !cvU α n s k) n 0 = true := exUp_true.mpr ⟨k, by omega, by omega, by rw [e]; rfl⟩
      rw [h] at this
      cases this
  · intro h
    cases e : exUp (fun k => !cvU α n s k) n 0 with
    | false => rfl
    | true =>
      obtain ⟨i, -, i2, i3⟩ := exUp_true.mp e
      rw [h i (by omega)] at i3
      cases i3
theorem cov_top (α : As) {n : Nat} (hn : n ≤ 8) : cov9 n α (ii (2 ^ n - 1)) = true := cov_iff.mpr fun k hk => by
  unfold cvU
  rw [tb_ones (by omega), decide_eq_true hk]
  exact or_up n 0
theorem cvr_go (α : As) {n : Nat} (hn : n ≤ 8) : ∀ (m k b : Nat), k + m = 2 ^ n - 1 → b ≤ 2 ^ n - 1 → cov9 n α (ii b) = true → (b < k ∨ b = 2 ^ n - 1) → (∀ s, (s < k ∨ s = 2 ^ n - 1) → cov9 n α (ii s) = true → pcN b ≤ pcN s ∧ (s < b → pcN b < pcN s)) →
    ∃ w, upto (fun k b => if (decide (pcI (ii k) < pcI b) && cov9 n α (ii k)) = true then ii k else b) m k (ii b) = ii w ∧ Bst (fun s => cov9 n α (ii s)) pcN (2 ^ n - 1) w
  | 0, k, b, e, h1, h2, h3, h4 => ⟨b, rfl, h1, h2, fun s hs => h4 s (by omega)⟩
  | m + 1, k, b, e, h1, h2, h3, h4 => by
    show ∃ w, upto (fun k b => if (decide (pcI (ii k) < pcI b) && cov9 n α (ii k)) = true then ii k else b) m (k + 1) (if (decide (pcI (ii k) < pcI (ii b)) && cov9 n α (ii k)) = true then ii k else ii b) = ii w ∧ _
    have hq : (pcI (ii k) < pcI (ii b)) = (pcN k < pcN b) := propext Int32.lt_iff_toInt_lt
    by_cases h5 : pcN k < pcN b ∧ cov9 n α (ii k) = true
    · rw [if_pos (by rw [decide_eq_true (by rw [hq]; exact h5.1), h5.2]; rfl)]
      refine cvr_go α hn m (k + 1) k (by omega) (by omega) h5.2 (by omega) fun s hs hc => ?_
      by_cases e2 : s = k
      · subst e2
        exact ⟨Int.le_refl _, fun w => absurd w (by omega)⟩
      · obtain ⟨x, y⟩ := h4 s (by omega) hc
        have := h5.1
        exact ⟨by omega, fun w => by omega⟩
    · rw [if_neg (fun w => h5 (by
        have w1 := Bool.and_eq_true_iff.mp w
        have w2 := of_decide_eq_true w1.1
        rw [hq] at w2
        exact ⟨w2, w1.2⟩))]
      refine cvr_go α hn m (k + 1) b (by omega) h1 h2 (by omega) fun s hs hc => ?_
      by_cases e2 : s = k
      · subst e2
        have hN : pcN s < pcN (2 ^ n - 1) := Int32.lt_iff_toInt_lt.mp (pc_top n hn s (by omega))
        have h6 : ¬ pcN s < pcN b := fun w => h5 ⟨w, hc⟩
        rcases h3 with h3 | h3
        · exact ⟨by omega, fun w => by omega⟩
        · rw [h3] at h6
          exact absurd hN h6
      · exact h4 s (by omega) hc
theorem cvr_bst (α : As) {n : Nat} (hn : n ≤ 8) : ∃ w, cvr9 n α = ii w ∧ Bst (fun s => cov9 n α (ii s)) pcN (2 ^ n - 1) w :=
  cvr_go α hn (2 ^ n - 1) 0 (2 ^ n - 1) (by omega) (Nat.le_refl _) (cov_top α hn) (Or.inr rfl) fun s hs hc => by
    have e : s = 2 ^ n - 1 := by omega
    subst e
    exact ⟨Int.le_refl _, fun w => absurd w (by omega)⟩
section RQ6
variable {τ τ' : Nat → Nat} {n A c B B1 m T : Nat} {K : Int32} {p b9 x9 p9 : Nat → Nat} {h h' : Hp} {α : As}
theorem ca_cv (V : CA n h α) (hn : n ≤ 8) {k : Nat} (hk : k < 2 ^ n) : cvF n h (ii k) = cov9 n α (ii k) := by
  have key1 : ∀ (m j : Nat) (r : Int32) (i : Nat), j + m ≤ n → i < n → tb (upto (cvS h (ii k)) m j r) i = upto (fun j b => b || (tb (ii k) j && hr9 α i j)) m j (tb r i) := by
    intro m
    induction m with
    | zero => intro _ _ _ _ _; rfl
    | succ m ih =>
      intro j r i hj hi
      show tb (upto (cvS h (ii k)) m (j + 1) (cvS h (ii k) j r)) i = upto (fun j b => b || (tb (ii k) j && hr9 α i j)) m (j + 1) (tb r i || (tb (ii k) j && hr9 α i j))
      rw [ih (j + 1) _ i (by omega) hi]
      unfold cvS
      cases tb (ii k) j with
      | false => rw [if_neg (by decide), Bool.false_and, Bool.or_false]
      | true => rw [if_pos rfl, tb_or _ _ (by omega), V.2.2.2.1 j (by omega), hs_tb hn (by omega), decide_eq_true hi, Bool.true_and]
  have key2 : ∀ (m j : Nat) (r : Int32) (i : Nat), j + m ≤ n → n ≤ i → i < 32 → tb (upto (cvS h (ii k)) m j r) i = tb r i := by
    intro m
    induction m with
    | zero => intro _ _ _ _ _ _; rfl
    | succ m ih =>
      intro j r i hj hi h32
      show tb (upto (cvS h (ii k)) m (j + 1) (cvS h (ii k) j r)) i = _
      rw [ih (j + 1) _ i (by omega) hi h32]
      unfold cvS
      cases tb (ii k) j with
      | false => rw [if_neg (by decide)]
      | true => rw [if_pos rfl, tb_or _ _ h32, V.2.2.2.1 j (by omega), hs_tb hn h32, decide_eq_false (by omega), Bool.false_and, Bool.or_false]
  have out : ∀ i, n ≤ i → i < 32 → tb (ii k) i = false := fun i h1 h2 => by
    rw [tb_ii _ h2]
    exact Nat.testBit_lt_two_pow (Nat.lt_of_lt_of_le hk (Nat.pow_le_pow_right (by omega) h1))
  unfold cvF
  cases e : cov9 n α (ii k) with
  | true =>
    have all := cov_iff.mp e
    refine decide_eq_true (i32_ext fun i hi => ?_)
    rw [tb_ones hi]
    by_cases hin : i < n
    · rw [key1 n 0 _ i (by omega) hin, decide_eq_true hin]
      exact all i hin
    · rw [key2 n 0 _ i (by omega) (by omega) hi, decide_eq_false hin]
      exact out i (by omega) hi
  | false =>
    refine decide_eq_false fun w => ?_
    have : cov9 n α (ii k) = true := cov_iff.mpr fun i hi => by
      have q := key1 n 0 (ii k) i (by omega) hi
      rw [w, tb_ones (by omega), decide_eq_true hi] at q
      exact q.symm
    rw [e] at this
    cases this
theorem ca_cover (V : CA n h α) (hn : n ≤ 8) : fcF n h = cvr9 n α := by
  have hp := Nat.two_pow_pos n
  unfold fcF cvr9
  refine upto_congr _ 0 _ fun k b _ hk => ?_
  unfold fcS
  rw [ca_cv V hn (show k < 2 ^ n by omega)]
theorem ra_cov (V : RA τ n p c B1 h α) (s : Int32) : mcov h p s n = cov9 n α s := by
  unfold mcov cov9
  congr 1
  refine exUp_congr n 0 fun k _ hk => ?_
  congr 1
  unfold mcv cvU
  refine upto_congr n 0 _ fun j b _ hj => ?_
  rw [V.hr (by omega) (by omega)]
theorem qx_mcoverNow (R : RM τ n p A c B K h) (V : RA τ n p c B1 h α) : ∀ Q, WP Gm j_Mdl_coverNow 0 [some (.inr (.inl (some 121))), none, none] [] h Q = Q (.inl (some (.inl (cvr9 n α)))) h := by
  have hn := R.n8
  have hp := p256 hn
  have hp0 := Nat.two_pow_pos n
  have ctop := cov_top α hn
  obtain ⟨b, e1, w, ew, w1, w2, w3, w4⟩ := loopR (fun Q k (b : Int32) => WP Gm j_Mdl_coverNow 14 [some (.inr (.inl (some 121))), some (.inl b), some (.inl (svN n k))] [] h Q)
    (fun k b => ∃ w, b = ii w ∧ w ≤ 2 ^ n - 1 ∧ cov9 n α (ii w) = true ∧ ((k = 0 ∧ w = 2 ^ n - 1) ∨ 2 ^ n ≤ w + k) ∧ ∀ s, s ≤ 2 ^ n - 1 → 2 ^ n ≤ s + k → cov9 n α (ii s) = true → pcN w ≤ pcN s ∧ (s < w → pcN w < pcN s)) (2 ^ n)
    (fun k b hk hI => by
      obtain ⟨w, rfl, w1, w2, w3, w4⟩ := hI
      have ge : (svN n k < 0) = False := by
        unfold svN
        rw [if_pos hk]
        exact ii_neg (by omega)
      have es : svN n k = ii (2 ^ n - 1 - k) := if_pos hk
      refine ⟨if (mcov h p (svN n k) n && decide (pcI (svN n k) ≤ pcI (ii w))) = true then svN n k else ii w, fun Q => ?_, ?_⟩
      · rw [e_Mdl_coverNow_14]
        simp only [↓e_Mdl_coverNow_0, ↓e_Mdl_coverNow_1, ↓e_Mdl_coverNow_2, ↓e_Mdl_coverNow_5, ↓e_Mdl_coverNow_8, ↓e_Mdl_coverNow_9, ↓e_Mdl_coverNow_10, ↓e_Mdl_coverNow_11, ↓e_Mdl_coverNow_12, ↓e_Mdl_coverNow_13, ↓e_Mdl_coverNow_15, ↓e_Mdl_coverNow_18, ↓e_Mdl_coverNow_19, ↓e_Mdl_coverNow_20, ↓e_Mdl_coverNow_23, ↓e_Mdl_coverNow_26, ↓e_Mdl_coverNow_27, ↓e_Mdl_coverNow_30, ↓e_Mdl_coverNow_31, ↓e_Mdl_coverNow_34, ↓e_Mdl_coverNow_37, ↓e_Mdl_coverNow_38, ↓e_Mdl_coverNow_39, ↓e_Mdl_coverNow_42, ↓e_Mdl_coverNow_45, ↓e_Mdl_coverNow_46, not_true_eq_false, not_false_eq_true, one0, true_or, or_true, eq_self, bI_z, bI_nz, bI_o, b_ft, bI_1, bI_0, ↓kC_l, ↓kC_r, Option.toList_some, Option.toList_none, List.cons_append, List.nil_append, s1_0, s1_1i, s1_1r, s1_1w, s1_1n, s1_s, s2_0, s2_1i, s2_1r, s2_1w, s2_1n, s2_s, gI_sI, gI_sR, gI_sL, gI_sD, gR_sI, gR_sR, gR_sL, gR_sD, gL_sI, gL_sR, gL_sL, gL_sD, gD_sI, gD_sR, gD_sL, gD_sD, isK_sI, isK_sR, isK_sL, isK_sD, inL_sI, inL_sR, inL_sL, inL_sD, nx_sI, nx_sR, nx_sL, nx_sD, kd_sI, kd_sR, kd_sL, kd_sD, ln_sI, ln_sR, ln_sL, ln_sD, ↓reduceIte, c8_n, c8_1, c8_2, c8_3, c8_4, Nat.reduceAdd, R.k, ge, q_mcovers _ R, q_bitCount, svN_next hn hk]
        cases mcov h p (svN n k) n with
        | false => simp
        | true =>
          by_cases c1 : pcI (ii w) < pcI (svN n k)
          · have c2 : ¬ pcI (svN n k) ≤ pcI (ii w) := Int32.not_le.mpr c1
            simp [c1, c2]
          · have c2 : pcI (svN n k) ≤ pcI (ii w) := Int32.not_lt.mp c1
            simp [c1, c2]
      · rw [ra_cov V, es]
        have hq : (pcI (ii (2 ^ n - 1 - k)) ≤ pcI (ii w)) = (pcN (2 ^ n - 1 - k) ≤ pcN w) := propext Int32.le_iff_toInt_le
        by_cases h5 : cov9 n α (ii (2 ^ n - 1 - k)) = true ∧ pcN (2 ^ n - 1 - k) ≤ pcN w
        · rw [if_pos (by rw [decide_eq_true (by rw [hq]; exact h5.2), h5.1]; rfl)]
          refine ⟨2 ^ n - 1 - k, rfl, by omega, h5.1, Or.inr (by omega), fun s hs hk2 hc => ?_⟩
          by_cases e2 : s = 2 ^ n - 1 - k
          · rw [e2]
            exact ⟨Int.le_refl _, fun w => absurd w (by omega)⟩
          · obtain ⟨x, -⟩ := w4 s hs (by omega) hc
            have := h5.2
            exact ⟨by omega, fun w => absurd w (by omega)⟩
        · rw [if_neg (fun q => h5 (by
            have q1 := Bool.and_eq_true_iff.mp q
            have q2 := of_decide_eq_true q1.2
            rw [hq] at q2
            exact ⟨q1.1, q2⟩))]
          have hk0 : k ≠ 0 := fun e => by
            subst e
            rcases w3 with ⟨-, w3⟩ | w3
            · subst w3
              exact h5 ⟨ctop, Int.le_refl _⟩
            · omega
          refine ⟨w, rfl, w1, w2, Or.inr (by omega), fun s hs hk2 hc => ?_⟩
          by_cases e2 : s = 2 ^ n - 1 - k
          · rw [← e2] at h5
            have h6 : ¬ pcN s ≤ pcN w := fun q => h5 ⟨hc, q⟩
            exact ⟨by omega, fun _ => by omega⟩
          · exact w4 s hs (by omega) hc) (2 ^ n) 0 (ii (2 ^ n - 1)) (by omega) ⟨2 ^ n - 1, rfl, Nat.le_refl _, ctop, Or.inl ⟨rfl, rfl⟩, fun s hs hk2 _ => absurd hk2 (by omega)⟩
  obtain ⟨t, t1, t2⟩ := cvr_bst α hn
  have et : w = t := Bst.uniq ⟨w1, w2, fun s hs hc => w4 s hs (by omega) hc⟩ t2
  subst et
  rw [t1, ← ew]
  intro Q
  have sh : 1 <<< (ii n &&& 31) - 1 = ii (2 ^ n - 1) := by
    have : ∀ n, n ≤ 8 → ((1 : Int32) <<< (ii n &&& 31) - 1) = ii (2 ^ n - 1) := by decide
    exact this n hn
  have s0 : ii (2 ^ n - 1) = svN n 0 := by
    unfold svN
    rw [if_pos (Nat.two_pow_pos n)]
    rfl
  have pre : WP Gm j_Mdl_coverNow 0 [some (.inr (.inl (some 121))), none, none] [] h Q = WP Gm j_Mdl_coverNow 14 [some (.inr (.inl (some 121))), some (.inl (ii (2 ^ n - 1))), some (.inl (svN n 0))] [] h Q := by
    simp only [↓e_Mdl_coverNow_0, ↓e_Mdl_coverNow_1, ↓e_Mdl_coverNow_2, ↓e_Mdl_coverNow_5, ↓e_Mdl_coverNow_8, ↓e_Mdl_coverNow_9, ↓e_Mdl_coverNow_10, ↓e_Mdl_coverNow_11, ↓e_Mdl_coverNow_12, ↓e_Mdl_coverNow_13, ↓e_Mdl_coverNow_15, ↓e_Mdl_coverNow_18, ↓e_Mdl_coverNow_19, ↓e_Mdl_coverNow_20, ↓e_Mdl_coverNow_23, ↓e_Mdl_coverNow_26, ↓e_Mdl_coverNow_27, ↓e_Mdl_coverNow_30, ↓e_Mdl_coverNow_31, ↓e_Mdl_coverNow_34, ↓e_Mdl_coverNow_37, ↓e_Mdl_coverNow_38, ↓e_Mdl_coverNow_39, ↓e_Mdl_coverNow_42, ↓e_Mdl_coverNow_45, ↓e_Mdl_coverNow_46, not_true_eq_false, not_false_eq_true, one0, true_or, or_true, eq_self, bI_z, bI_nz, bI_o, b_ft, bI_1, bI_0, ↓kC_l, ↓kC_r, Option.toList_some, Option.toList_none, List.cons_append, List.nil_append, s1_0, s1_1i, s1_1r, s1_1w, s1_1n, s1_s, s2_0, s2_1i, s2_1r, s2_1w, s2_1n, s2_s, gI_sI, gI_sR, gI_sL, gI_sD, gR_sI, gR_sR, gR_sL, gR_sD, gL_sI, gL_sR, gL_sL, gL_sD, gD_sI, gD_sR, gD_sL, gD_sD, isK_sI, isK_sR, isK_sL, isK_sD, inL_sI, inL_sR, inL_sL, inL_sD, nx_sI, nx_sR, nx_sL, nx_sD, kd_sI, kd_sR, kd_sL, kd_sD, ln_sI, ln_sR, ln_sL, ln_sD, ↓reduceIte, c8_n, c8_1, c8_2, c8_3, c8_4, Nat.reduceAdd, R.k, R.r9, R.k122, q_nn _ R, sh]
    rw [← s0]
  have ls : svN n (2 ^ n) = -1 := if_neg (Nat.lt_irrefl _)
  rw [pre, e1 Q, e_Mdl_coverNow_14, ls]
  simp only [↓e_Mdl_coverNow_0, ↓e_Mdl_coverNow_1, ↓e_Mdl_coverNow_2, ↓e_Mdl_coverNow_5, ↓e_Mdl_coverNow_8, ↓e_Mdl_coverNow_9, ↓e_Mdl_coverNow_10, ↓e_Mdl_coverNow_11, ↓e_Mdl_coverNow_12, ↓e_Mdl_coverNow_13, ↓e_Mdl_coverNow_15, ↓e_Mdl_coverNow_18, ↓e_Mdl_coverNow_19, ↓e_Mdl_coverNow_20, ↓e_Mdl_coverNow_23, ↓e_Mdl_coverNow_26, ↓e_Mdl_coverNow_27, ↓e_Mdl_coverNow_30, ↓e_Mdl_coverNow_31, ↓e_Mdl_coverNow_34, ↓e_Mdl_coverNow_37, ↓e_Mdl_coverNow_38, ↓e_Mdl_coverNow_39, ↓e_Mdl_coverNow_42, ↓e_Mdl_coverNow_45, ↓e_Mdl_coverNow_46, not_true_eq_false, not_false_eq_true, one0, true_or, or_true, eq_self, bI_z, bI_nz, bI_o, b_ft, bI_1, bI_0, ↓kC_l, ↓kC_r, Option.toList_some, Option.toList_none, List.cons_append, List.nil_append, s1_0, s1_1i, s1_1r, s1_1w, s1_1n, s1_s, s2_0, s2_1i, s2_1r, s2_1w, s2_1n, s2_s, gI_sI, gI_sR, gI_sL, gI_sD, gR_sI, gR_sR, gR_sL, gR_sD, gL_sI, gL_sR, gL_sL, gL_sD, gD_sI, gD_sR, gD_sL, gD_sD, isK_sI, isK_sR, isK_sL, isK_sD, inL_sI, inL_sR, inL_sL, inL_sD, nx_sI, nx_sR, nx_sL, nx_sD, kd_sI, kd_sR, kd_sL, kd_sD, ln_sI, ln_sR, ln_sL, ln_sD, ↓reduceIte, c8_n, c8_1, c8_2, c8_3, c8_4, Nat.reduceAdd, (show ((-1 : Int32) < 0) = True from eq_true (by decide))]
theorem cov_t (n : Nat) (α : As) (t : Int32) (hn : n ≤ 8) : cvr9 n (asV α 50 1 t) = cvr9 n α := by
  have e : ∀ s, cov9 n (asV α 50 1 t) s = cov9 n α s := fun s => by
    unfold cov9
    congr 1
    refine exUp_congr n 0 fun k _ hk => ?_
    congr 1
    unfold cvU
    refine upto_congr n 0 _ fun j b _ hj => ?_
    have eh : hr9 (asV α 50 1 t) k j = hr9 α k j := hr_congr fun a f ha hf => asV_n _ _ (by omega)
    rw [eh]
  unfold cvr9
  refine upto_congr _ 0 _ fun k b _ hk => ?_
  rw [e]
theorem qx_mcover (R : RM τ n p (8 * B) c B K h) (V : RA τ n p c B h α) : ∃ h', (∀ Q, WP Gm j_Mdl_cover 0 [some (.inr (.inl (some 121)))] [] h Q = Q (.inl (some (.inl (cvr9 n α)))) h') ∧ Jt τ h h' := by
  have R0 : RM τ n p (8 * B) c B K (sI h 121 0 0) := R.th
  have hv := qx_mcoverNow R0 (V.th R 0)
  rw [cov_t n α 0 R.n8] at hv
  refine ⟨sI h 121 0 0, fun Q => ?_, Jt.t0 τ h⟩
  simp only [↓e_Mdl_cover_0, ↓e_Mdl_cover_1, ↓e_Mdl_cover_2, ↓e_Mdl_cover_5, ↓e_Mdl_cover_6, ↓e_Mdl_cover_9, not_true_eq_false, not_false_eq_true, one0, true_or, or_true, eq_self, bI_z, bI_nz, bI_o, b_ft, bI_1, bI_0, ↓kC_l, ↓kC_r, Option.toList_some, Option.toList_none, List.cons_append, List.nil_append, s1_0, s1_1i, s1_1r, s1_1w, s1_1n, s1_s, s2_0, s2_1i, s2_1r, s2_1w, s2_1n, s2_s, gI_sI, gI_sR, gI_sL, gI_sD, gR_sI, gR_sR, gR_sL, gR_sD, gL_sI, gL_sR, gL_sL, gL_sD, gD_sI, gD_sR, gD_sL, gD_sD, isK_sI, isK_sR, isK_sL, isK_sD, inL_sI, inL_sR, inL_sL, inL_sD, nx_sI, nx_sR, nx_sL, nx_sD, kd_sI, kd_sR, kd_sL, kd_sD, ln_sI, ln_sR, ln_sL, ln_sD, ↓reduceIte, c8_n, c8_1, c8_2, c8_3, c8_4, Nat.reduceAdd, R.k, R0.k, hv]
theorem vx_cover (V : CA n h α) (S : Str n h) : ∀ Q, WP Gm j_S_cover 0 [some (.inr (.inl (some 1)))] [] h Q = Q (.inl (some (.inl (cvr9 n α)))) h := fun Q => by
  rw [← ca_cover V (n8 S)]
  exact q_cover Q S
end RQ6
