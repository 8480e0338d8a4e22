/-! xmk3: the country's market in numbers -/
section XM3
variable {n c : Nat} {h : Hp} {b x p : Nat → Nat}
theorem ii_sub9 {a d : Nat} (hd : d ≤ a) : ii a - ii d = ii (a - d) := by
  rw [ii_jj, ii_jj, ii_jj, jj_sub]
  exact congrArg jj (by omega)
def tW (b p : Nat → Nat) (w s : Nat) : Nat → Nat
  | 0 => 0
  | m + 1 => tW b p w s m + (if s.testBit m = true ∧ b m = w then p m else 0)
theorem tW_s (w s m : Nat) : tW b p w s (m + 1) = tW b p w s m + (if s.testBit m = true ∧ b m = w then p m else 0) := rfl
theorem tW_X {w s : Nat} : ∀ m, sP p s m = sX b p w s m + tW b p w s m
  | 0 => rfl
  | m + 1 => by
    have ih := tW_X (w := w) (s := s) m
    rw [tW_s, sX_s, sP_s, ih]
    by_cases q : s.testBit m = true
    · by_cases q2 : b m = w
      · simp [q, q2]; omega
      · simp [q, q2]; omega
    · simp [q]
theorem fdUp_none {c : Nat → Bool} : ∀ {m k : Nat}, fdUp c m k = none → ∀ j, k ≤ j → j < k + m → c j = false
  | 0, k, _, j, h1, h2 => absurd h2 (by omega)
  | m + 1, k, h, j, h1, h2 => by
    unfold fdUp at h
    cases hc : c k with
    | true => rw [hc, if_pos rfl] at h; cases h
    | false =>
      rw [hc, if_neg (by decide)] at h
      by_cases e : j = k
      · rw [e]; exact hc
      · exact fdUp_none h j (by omega) (by omega)
theorem tW_0 {w s : Nat} : ∀ m, (∀ j, j < m → ¬ (s.testBit j = true ∧ b j = w)) → tW b p w s m = 0
  | 0, _ => rfl
  | m + 1, h => by
    rw [tW_s, tW_0 m fun j hj => h j (by omega), if_neg (h m (by omega))]
theorem tW_1 {w s i : Nat} (h1 : s.testBit i = true) (h2 : b i = w) : ∀ m, i < m → (∀ j, j < m → j ≠ i → ¬ (s.testBit j = true ∧ b j = w)) → tW b p w s m = p i
  | m + 1, hi, h => by
    rw [tW_s]
    by_cases e : i = m
    · subst e
      rw [tW_0 i fun j hj => h j (by omega) (by omega), if_pos ⟨h1, h2⟩, Nat.zero_add]
    · rw [tW_1 h1 h2 m (by omega) fun j hj q => h j (by omega) q, if_neg (h m (by omega) fun q => e q.symm), Nat.add_zero]
theorem am_va (c : Nat) : ∀ k, va9 b x (am b x p c k) c = true
  | 0 => by
    have : ∀ m, ms b x 0 m = some 0 := fun m => by
      induction m with
      | zero => rfl
      | succ m ih => rw [ms_s, Nat.zero_testBit, if_neg (by decide), ih]
    show va9 b x 0 c = true
    unfold va9
    rw [this]
    rfl
  | k + 1 => by
    rw [am_s]
    split
    · rename_i q; exact q.1
    · exact am_va c k
/-- what the market keeps of the bids -/
def MX (b x p : Nat → Nat) (c : Nat) (h : Hp) : Prop := c ≤ 10 ∧ (∀ i, i < c → (b i < 5 ∧ 1 ≤ x i ∧ x i < 64 ∧ 1 ≤ p i ∧ p i ≤ 999) ∧ gI h 116 i = ii (b i) ∧ gI h 117 i = ii (p i)) ∧ gI h 115 5 = ii c ∧
  (∀ s, s < 2 ^ c → (ms b x s c = none ∧ gI h 119 s = -1) ∨ ∃ a, ms b x s c = some a ∧ gI h 119 s = ii (sP p s c) ∧ gI h 118 s = ii a) ∧
  gI h 115 6 = ii (am b x p c (2 ^ c)) ∧ gI h 115 7 = ii (sP p (am b x p c (2 ^ c)) c) ∧ ∀ w, w < 5 → gI h 120 w = ii (um b x p c w (2 ^ c))
theorem MX.le (M : MX b x p c h) (s : Nat) : sP p s c ≤ 9990 := by
  have h1 := sP_le (p := p) (s := s) (m := c) fun i hi => (M.2.1 i hi).1.2.2.2.2
  have := M.1
  omega
theorem um_le (hp : ∀ i, i < c → p i ≤ 999) (hc : c ≤ 10) {w : Nat} : ∀ k, um b x p c w k ≤ 9990
  | 0 => by show 0 ≤ 9990; omega
  | k + 1 => by
    have h1 := sP_le (p := p) (s := k) (m := c) hp
    rw [um_s]
    split
    · omega
    · exact um_le hp hc k
theorem MX.of {h' : Hp} (M : MX b x p c h) (e : ∀ a k, 115 ≤ a → a < 121 → gI h' a k = gI h a k) : MX b x p c h' := by
  obtain ⟨m1, m2, m3, m4, m5, m6, m7⟩ := M
  refine ⟨m1, fun i hi => ?_, by rw [e _ _ (by omega) (by omega)]; exact m3, fun s hs => ?_, by rw [e _ _ (by omega) (by omega)]; exact m5, by rw [e _ _ (by omega) (by omega)]; exact m6, fun w hw => by rw [e _ _ (by omega) (by omega)]; exact m7 w hw⟩
  · rw [e _ _ (by omega) (by omega), e _ _ (by omega) (by omega)]; exact m2 i hi
  · rw [e _ _ (by omega) (by omega), e _ _ (by omega) (by omega)]; exact m4 s hs
theorem MX.wp (M : MX b x p c h) {w : Nat} (hw : w < 5) : wpF c h (ii w) = ii (tW b p w (am b x p c (2 ^ c)) c) := by
  obtain ⟨m1, m2, m3, m4, m5, m6, m7⟩ := M
  have hv := am_va (b := b) (x := x) (p := p) c (2 ^ c)
  generalize hW : am b x p c (2 ^ c) = W at *
  have hx : ∀ i, i < c → x i < 64 := fun i hi => (m2 i hi).1.2.2.1
  have two : ∀ i j, i < c → j < c → i ≠ j → W.testBit i = true → W.testBit j = true → b i = b j → False := fun i j hi hj hij t1 t2 e => by
    have key : ms b x W c = none := by
      rcases Nat.lt_or_gt_of_ne hij with q | q
      · exact ms_two q hj t1 t2 e hx
      · exact ms_two q hi t2 t1 e.symm hx
    unfold va9 at hv
    rw [key] at hv
    cases hv
  have cond : ∀ k, k < c → (wpC h (ii w) k = true ↔ W.testBit k = true ∧ b k = w) := fun k hk => by
    obtain ⟨⟨b1, -⟩, g0, g1⟩ := m2 k hk
    unfold wpC
    rw [m5, tb_ii W (by omega), g0, Bool.and_eq_true, decide_eq_true_eq, ii_inj (by omega) (by omega)]
  unfold wpF
  cases e : fdUp (wpC h (ii w)) c 0 with
  | none =>
    dsimp only
    rw [tW_0 c fun j hj q => ?_]
    · rfl
    · have := fdUp_none e j (by omega) (by omega)
      rw [(cond j hj).mpr q] at this
      cases this
  | some i =>
    obtain ⟨-, hi, hc9⟩ := fdUp_some e
    have hi' : i < c := by omega
    obtain ⟨t1, t2⟩ := (cond i hi').mp hc9
    dsimp only
    rw [(m2 i hi').2.2, tW_1 t1 t2 c hi' fun j hj hji q => two j i hj hi' hji q.1 t1 (by rw [q.2, t2])]
theorem MX.pb (M : MX b x p c h) {w : Nat} (hw : w < 5) : pbF c h w = pay9 b x p c w := by
  have hX := tW_X (b := b) (p := p) (w := w) (s := am b x p c (2 ^ c)) c
  have h1 := M.le (am b x p c (2 ^ c))
  unfold pbF pay9
  rw [M.wp hw, M.2.2.2.2.2.2 w hw, M.2.2.2.2.2.1, ii_sub9 (show tW b p w (am b x p c (2 ^ c)) c ≤ sP p (am b x p c (2 ^ c)) c by omega)]
  have e1 : (ii (tW b p w (am b x p c (2 ^ c)) c) = 0) = (sX b p w (am b x p c (2 ^ c)) c = sP p (am b x p c (2 ^ c)) c) := by
    rw [show (0 : Int32) = ii 0 from rfl, ii_inj (by omega) (by omega)]
    exact propext ⟨fun _ => by omega, fun _ => by omega⟩
  simp only [e1]
  rw [show sP p (am b x p c (2 ^ c)) c - tW b p w (am b x p c (2 ^ c)) c = sX b p w (am b x p c (2 ^ c)) c by omega]
theorem q_weighX (S : Str n h) {s : Nat} (hs : s < 1024) : ∃ h', (∀ Q, WP Gm j_Market_weigh 0 [some (.inr (.inl (some 115))), some (.inl (ii s)), none] [] h Q = Q (.inl none) h') ∧ Fr wG nW nW h h' ∧
    gI h' 115 7 = (if gI h 115 7 < gI h 119 s then gI h 119 s else gI h 115 7) ∧ gI h' 115 6 = (if gI h 115 7 < gI h 119 s then ii s else gI h 115 6) ∧ ∀ w, w < 5 → gI h' 120 w = if (!tb (gI h 118 s) (6 + w) && decide (gI h 120 w < gI h 119 s)) = true then gI h 119 s else gI h 120 w := by
  have key : ∀ g : Hp, Str n g → ∃ h', (∀ Q, WP Gm j_Market_weigh 30 [some (.inr (.inl (some 115))), some (.inl (ii s)), some (.inl (ii 0))] [] g Q = Q (.inl none) h') ∧ Fr (fun a _ => a = 120) nW nW g h' ∧ ∀ w, w < 5 → gI h' 120 w = if (!tb (gI g 118 s) (6 + w) && decide (gI g 120 w < gI g 119 s)) = true then gI g 119 s else gI g 120 w := by
    intro g Sg
    obtain ⟨h1, e1, F1, z1, z2⟩ := loopR (fun Q k (x : Hp) => WP Gm j_Market_weigh 30 [some (.inr (.inl (some 115))), some (.inl (ii s)), some (.inl (ii k))] [] x Q) (fun k x => Fr (fun a _ => a = 120) nW nW g x ∧ (∀ w, w < k → gI x 120 w = if (!tb (gI g 118 s) (6 + w) && decide (gI g 120 w < gI g 119 s)) = true then gI g 119 s else gI g 120 w) ∧ ∀ w, k ≤ w → gI x 120 w = gI g 120 w) 5
      (fun k x hk hI => by
        have Sx : Str n x := Sg.fr hI.1 (by omega)
        have hw : gI x 119 s = gI g 119 s := hI.1.1 119 s (by omega)
        have ht : gI x 118 s = gI g 118 s := hI.1.1 118 s (by omega)
        have hkk : gI x 120 k = gI g 120 k := hI.2.2 k (Nat.le_refl _)
        have e6 : (6 + ii k : Int32) = ii (6 + k) := by
          have : ∀ k, k < 5 → (6 + ii k : Int32) = ii (6 + k) := by decide
          exact this k hk
        refine ⟨if (!tb (gI x 118 s) (6 + k) && decide (gI x 120 k < gI x 119 s)) = true then sI x 120 k (gI x 119 s) else x, fun Q => ?_, ?_, ?_, ?_⟩
        · rw [e_Market_weigh_30]
          simp only [↓e_Market_weigh_0, ↓e_Market_weigh_1, ↓e_Market_weigh_4, ↓e_Market_weigh_5, ↓e_Market_weigh_6, ↓e_Market_weigh_7, ↓e_Market_weigh_10, ↓e_Market_weigh_13, ↓e_Market_weigh_14, ↓e_Market_weigh_15, ↓e_Market_weigh_18, ↓e_Market_weigh_19, ↓e_Market_weigh_20, ↓e_Market_weigh_23, ↓e_Market_weigh_24, ↓e_Market_weigh_25, ↓e_Market_weigh_28, ↓e_Market_weigh_29, ↓e_Market_weigh_31, ↓e_Market_weigh_32, ↓e_Market_weigh_35, ↓e_Market_weigh_36, ↓e_Market_weigh_39, ↓e_Market_weigh_40, ↓e_Market_weigh_41, ↓e_Market_weigh_43, ↓e_Market_weigh_44, ↓e_Market_weigh_45, ↓e_Market_weigh_48, ↓e_Market_weigh_51, ↓e_Market_weigh_52, ↓e_Market_weigh_55, ↓e_Market_weigh_56, ↓e_Market_weigh_57, ↓e_Market_weigh_58, ↓e_Market_weigh_61, ↓e_Market_weigh_62, ↓e_Market_weigh_63, ↓e_Market_weigh_66, ↓e_Market_weigh_67, ↓e_Market_weigh_70, ↓e_Market_weigh_71, ↓e_Market_weigh_72, ↓e_Market_weigh_75, ↓e_Market_weigh_76, ↓e_Market_weigh_77, ↓e_Market_weigh_78, ↓e_Market_weigh_81, ↓e_Market_weigh_84, not_true_eq_false, not_false_eq_true, one0, true_or, or_true, eq_self, bI_z, bI_nz, bI_o, b_ft, bI_1, bI_0, ↓kC_l, ↓kC_r, Option.toList_some, Option.toList_none, List.cons_append, List.nil_append, s1_0, s1_1i, s1_1r, s1_1w, s1_1n, s1_s, s2_0, s2_1i, s2_1r, s2_1w, s2_1n, s2_s, gI_sI, gI_sR, gI_sL, gI_sD, gR_sI, gR_sR, gR_sL, gR_sD, gL_sI, gL_sR, gL_sL, gL_sD, gD_sI, gD_sR, gD_sL, gD_sD, isK_sI, isK_sR, isK_sL, isK_sD, inL_sI, inL_sR, inL_sL, inL_sD, nx_sI, nx_sR, nx_sL, nx_sD, kd_sI, kd_sR, kd_sL, kd_sD, ln_sI, ln_sR, ln_sL, ln_sD, ↓reduceIte, c8_n, c8_1, c8_2, c8_3, c8_4, Nat.reduceAdd, k_market Sx, k_bid Sx, k_pri Sx, k_tak Sx, k_wor Sx, k_wwo Sx, r_bid Sx, r_pri Sx, r_tak Sx, r_wor Sx, r_wwo Sx, l5_f hk, ii_succ, e6, q_isIn, l_wwo Sx hk, l_tak Sx hs, l_wor Sx hs, ii_nat (show k < 2147483648 by omega), ii_nat (show s < 2147483648 by omega), (show ¬ (120 : Nat) = 0 by decide)]
          cases tb (gI x 118 s) (6 + k)
          · by_cases e : gI x 119 s ≤ gI x 120 k
            · rw [if_pos e, decide_eq_false (Int32.not_lt.mpr e)]; rfl
            · rw [if_neg e, decide_eq_true (Int32.not_le.mp e)]; rfl
          · rfl
        · split
          · exact hI.1.sI _ rfl
          · exact hI.1
        · intro w hw2
          rw [← ht, ← hw]
          by_cases e : w = k
          · subst e
            rw [← hkk]
            split
            · rw [gI_sI, if_pos ⟨rfl, rfl⟩]
            · rfl
          · rw [ht, hw]
            have := hI.2.1 w (by omega)
            split
            · rw [gI_sI, if_neg (fun q => e q.2)]; exact this
            · exact this
        · intro w hw2
          split
          · rw [gI_sI, if_neg (by omega)]; exact hI.2.2 w (by omega)
          · exact hI.2.2 w (by omega)) 5 0 g (by omega) ⟨Fr.refl g, fun w hw => absurd hw (by omega), fun w _ => rfl⟩
    have S1 : Str n h1 := Sg.fr F1 (by omega)
    refine ⟨h1, fun Q => (e1 Q).trans ?_, F1, z1⟩
    rw [e_Market_weigh_30]
    simp only [↓e_Market_weigh_0, ↓e_Market_weigh_1, ↓e_Market_weigh_4, ↓e_Market_weigh_5, ↓e_Market_weigh_6, ↓e_Market_weigh_7, ↓e_Market_weigh_10, ↓e_Market_weigh_13, ↓e_Market_weigh_14, ↓e_Market_weigh_15, ↓e_Market_weigh_18, ↓e_Market_weigh_19, ↓e_Market_weigh_20, ↓e_Market_weigh_23, ↓e_Market_weigh_24, ↓e_Market_weigh_25, ↓e_Market_weigh_28, ↓e_Market_weigh_29, ↓e_Market_weigh_31, ↓e_Market_weigh_32, ↓e_Market_weigh_35, ↓e_Market_weigh_36, ↓e_Market_weigh_39, ↓e_Market_weigh_40, ↓e_Market_weigh_41, ↓e_Market_weigh_43, ↓e_Market_weigh_44, ↓e_Market_weigh_45, ↓e_Market_weigh_48, ↓e_Market_weigh_51, ↓e_Market_weigh_52, ↓e_Market_weigh_55, ↓e_Market_weigh_56, ↓e_Market_weigh_57, ↓e_Market_weigh_58, ↓e_Market_weigh_61, ↓e_Market_weigh_62, ↓e_Market_weigh_63, ↓e_Market_weigh_66, ↓e_Market_weigh_67, ↓e_Market_weigh_70, ↓e_Market_weigh_71, ↓e_Market_weigh_72, ↓e_Market_weigh_75, ↓e_Market_weigh_76, ↓e_Market_weigh_77, ↓e_Market_weigh_78, ↓e_Market_weigh_81, ↓e_Market_weigh_84, not_true_eq_false, not_false_eq_true, one0, true_or, or_true, eq_self, bI_z, bI_nz, bI_o, b_ft, bI_1, bI_0, ↓kC_l, ↓kC_r, Option.toList_some, Option.toList_none, List.cons_append, List.nil_append, s1_0, s1_1i, s1_1r, s1_1w, s1_1n, s1_s, s2_0, s2_1i, s2_1r, s2_1w, s2_1n, s2_s, gI_sI, gI_sR, gI_sL, gI_sD, gR_sI, gR_sR, gR_sL, gR_sD, gL_sI, gL_sR, gL_sL, gL_sD, gD_sI, gD_sR, gD_sL, gD_sD, isK_sI, isK_sR, isK_sL, isK_sD, inL_sI, inL_sR, inL_sL, inL_sD, nx_sI, nx_sR, nx_sL, nx_sD, kd_sI, kd_sR, kd_sL, kd_sD, ln_sI, ln_sR, ln_sL, ln_sD, ↓reduceIte, c8_n, c8_1, c8_2, c8_3, c8_4, Nat.reduceAdd, k_market S1, k_bid S1, k_pri S1, k_tak S1, k_wor S1, k_wwo S1, r_bid S1, r_pri S1, r_tak S1, r_wor S1, r_wwo S1, l5_t]
  by_cases hlt : gI h 115 7 < gI h 119 s
  · obtain ⟨h1, e1, F1, z1⟩ := key (sI (sI h 115 7 (gI h 119 s)) 115 6 (ii s)) ((S.sI _ (by omega)).sI _ (by omega))
    refine ⟨h1, fun Q => ?_, ?_, ?_, ?_, z1⟩
    · simp only [↓e_Market_weigh_0, ↓e_Market_weigh_1, ↓e_Market_weigh_4, ↓e_Market_weigh_5, ↓e_Market_weigh_6, ↓e_Market_weigh_7, ↓e_Market_weigh_10, ↓e_Market_weigh_13, ↓e_Market_weigh_14, ↓e_Market_weigh_15, ↓e_Market_weigh_18, ↓e_Market_weigh_19, ↓e_Market_weigh_20, ↓e_Market_weigh_23, ↓e_Market_weigh_24, ↓e_Market_weigh_25, ↓e_Market_weigh_28, ↓e_Market_weigh_29, ↓e_Market_weigh_31, ↓e_Market_weigh_32, ↓e_Market_weigh_35, ↓e_Market_weigh_36, ↓e_Market_weigh_39, ↓e_Market_weigh_40, ↓e_Market_weigh_41, ↓e_Market_weigh_43, ↓e_Market_weigh_44, ↓e_Market_weigh_45, ↓e_Market_weigh_48, ↓e_Market_weigh_51, ↓e_Market_weigh_52, ↓e_Market_weigh_55, ↓e_Market_weigh_56, ↓e_Market_weigh_57, ↓e_Market_weigh_58, ↓e_Market_weigh_61, ↓e_Market_weigh_62, ↓e_Market_weigh_63, ↓e_Market_weigh_66, ↓e_Market_weigh_67, ↓e_Market_weigh_70, ↓e_Market_weigh_71, ↓e_Market_weigh_72, ↓e_Market_weigh_75, ↓e_Market_weigh_76, ↓e_Market_weigh_77, ↓e_Market_weigh_78, ↓e_Market_weigh_81, ↓e_Market_weigh_84, not_true_eq_false, not_false_eq_true, one0, true_or, or_true, eq_self, bI_z, bI_nz, bI_o, b_ft, bI_1, bI_0, ↓kC_l, ↓kC_r, Option.toList_some, Option.toList_none, List.cons_append, List.nil_append, s1_0, s1_1i, s1_1r, s1_1w, s1_1n, s1_s, s2_0, s2_1i, s2_1r, s2_1w, s2_1n, s2_s, gI_sI, gI_sR, gI_sL, gI_sD, gR_sI, gR_sR, gR_sL, gR_sD, gL_sI, gL_sR, gL_sL, gL_sD, gD_sI, gD_sR, gD_sL, gD_sD, isK_sI, isK_sR, isK_sL, isK_sD, inL_sI, inL_sR, inL_sL, inL_sD, nx_sI, nx_sR, nx_sL, nx_sD, kd_sI, kd_sR, kd_sL, kd_sD, ln_sI, ln_sR, ln_sL, ln_sD, ↓reduceIte, c8_n, c8_1, c8_2, c8_3, c8_4, Nat.reduceAdd, k_market S, k_bid S, k_pri S, k_tak S, k_wor S, k_wwo S, r_bid S, r_pri S, r_tak S, r_wor S, r_wwo S, l_wor S hs, ii_nat (show s < 2147483648 by omega)]
      rw [if_neg (Int32.not_le.mpr hlt)]
      exact e1 Q
    · exact (((Fr.refl h).sI (WI := wG) _ (by unfold wG; omega)).sI _ (by unfold wG; omega)).trans (F1.mono (fun a k q => Or.inr q) (fun _ _ q => q) (fun _ _ q => q))
    · rw [F1.1 115 7 (by omega), if_pos hlt]; rfl
    · rw [F1.1 115 6 (by omega), if_pos hlt]; rfl
  · obtain ⟨h1, e1, F1, z1⟩ := key h S
    refine ⟨h1, fun Q => ?_, F1.mono (fun a k q => Or.inr q) (fun _ _ q => q) (fun _ _ q => q), ?_, ?_, z1⟩
    · simp only [↓e_Market_weigh_0, ↓e_Market_weigh_1, ↓e_Market_weigh_4, ↓e_Market_weigh_5, ↓e_Market_weigh_6, ↓e_Market_weigh_7, ↓e_Market_weigh_10, ↓e_Market_weigh_13, ↓e_Market_weigh_14, ↓e_Market_weigh_15, ↓e_Market_weigh_18, ↓e_Market_weigh_19, ↓e_Market_weigh_20, ↓e_Market_weigh_23, ↓e_Market_weigh_24, ↓e_Market_weigh_25, ↓e_Market_weigh_28, ↓e_Market_weigh_29, ↓e_Market_weigh_31, ↓e_Market_weigh_32, ↓e_Market_weigh_35, ↓e_Market_weigh_36, ↓e_Market_weigh_39, ↓e_Market_weigh_40, ↓e_Market_weigh_41, ↓e_Market_weigh_43, ↓e_Market_weigh_44, ↓e_Market_weigh_45, ↓e_Market_weigh_48, ↓e_Market_weigh_51, ↓e_Market_weigh_52, ↓e_Market_weigh_55, ↓e_Market_weigh_56, ↓e_Market_weigh_57, ↓e_Market_weigh_58, ↓e_Market_weigh_61, ↓e_Market_weigh_62, ↓e_Market_weigh_63, ↓e_Market_weigh_66, ↓e_Market_weigh_67, ↓e_Market_weigh_70, ↓e_Market_weigh_71, ↓e_Market_weigh_72, ↓e_Market_weigh_75, ↓e_Market_weigh_76, ↓e_Market_weigh_77, ↓e_Market_weigh_78, ↓e_Market_weigh_81, ↓e_Market_weigh_84, not_true_eq_false, not_false_eq_true, one0, true_or, or_true, eq_self, bI_z, bI_nz, bI_o, b_ft, bI_1, bI_0, ↓kC_l, ↓kC_r, Option.toList_some, Option.toList_none, List.cons_append, List.nil_append, s1_0, s1_1i, s1_1r, s1_1w, s1_1n, s1_s, s2_0, s2_1i, s2_1r, s2_1w, s2_1n, s2_s, gI_sI, gI_sR, gI_sL, gI_sD, gR_sI, gR_sR, gR_sL, gR_sD, gL_sI, gL_sR, gL_sL, gL_sD, gD_sI, gD_sR, gD_sL, gD_sD, isK_sI, isK_sR, isK_sL, isK_sD, inL_sI, inL_sR, inL_sL, inL_sD, nx_sI, nx_sR, nx_sL, nx_sD, kd_sI, kd_sR, kd_sL, kd_sD, ln_sI, ln_sR, ln_sL, ln_sD, ↓reduceIte, c8_n, c8_1, c8_2, c8_3, c8_4, Nat.reduceAdd, k_market S, k_bid S, k_pri S, k_tak S, k_wor S, k_wwo S, r_bid S, r_pri S, r_tak S, r_wor S, r_wwo S, l_wor S hs, ii_nat (show s < 2147483648 by omega)]
      rw [if_pos (Int32.not_lt.mp hlt)]
      exact e1 Q
    · rw [F1.1 115 7 (by omega), if_neg hlt]
    · rw [F1.1 115 6 (by omega), if_neg hlt]
def TW9 (b x p : Nat → Nat) (c s : Nat) (g : Hp) : Prop := (ms b x s c = none ∧ gI g 119 s = -1) ∨ ∃ a, ms b x s c = some a ∧ gI g 119 s = ii (sP p s c) ∧ gI g 118 s = ii a
theorem q_addX (S : Str n h) (hc10 : c < 10) (M : MX b x p c h) (hn : b c < 5 ∧ 1 ≤ x c ∧ x c < 64 ∧ 1 ≤ p c ∧ p c ≤ 999) :
    ∃ h', (∀ Q, WP Gm j_Market_add 0 [some (.inr (.inl (some 115))), some (.inl (ii (b c))), some (.inl (ii (x c))), some (.inl (ii (p c))), none, none, none, none, none] [] h Q = Q (.inl (some (.inl (ii c)))) h') ∧ Fr wM nW nW h h' ∧ MX b x p (c + 1) h' := by
  obtain ⟨m1, m2, hc, m4, m5, m6, m7⟩ := id M
  obtain ⟨hb, hx1, hx2, hp1, hp⟩ := id hn
  have h1024 := p1024 hc10
  have hpw := pw2 c
  have hp0 := pw0 c
  generalize hh0 : sI (sI (sI h 115 5 (ii (c + 1))) 116 c (ii (b c))) 117 c (ii (p c)) = h0
  have S0 : Str n h0 := by rw [← hh0]; exact ((S.sI _ (by omega)).sI _ (by omega)).sI _ (by omega)
  have F0 : Fr wM nW nW h h0 := by rw [← hh0]; exact (((Fr.refl h).sI _ (by unfold wM; omega)).sI _ (by unfold wM; omega)).sI _ (by unfold wM; omega)
  have gother : ∀ a k, a = 120 ∨ a = 118 ∨ a = 119 ∨ (a = 115 ∧ 6 ≤ k) → gI h0 a k = gI h a k := fun a k ha => by rw [← hh0, gI_sI, gI_sI, gI_sI, if_neg (by omega), if_neg (by omega), if_neg (by omega)]
  have g115 : gI h0 115 5 = ii (c + 1) := by rw [← hh0]; rfl
  have g117 : ∀ i, i < c → gI h0 117 i = gI h 117 i := fun i hi => by rw [← hh0, gI_sI, gI_sI, gI_sI, if_neg (by omega), if_neg (by omega), if_neg (by omega)]
  have g117c : gI h0 117 c = ii (p c) := by rw [← hh0, gI_sI, if_pos ⟨rfl, rfl⟩]
  have g116 : ∀ i, i < c → gI h0 116 i = gI h 116 i := fun i hi => by rw [← hh0, gI_sI, gI_sI, gI_sI, if_neg (by omega), if_neg (by omega), if_neg (by omega)]
  have g116c : gI h0 116 c = ii (b c) := by rw [← hh0, gI_sI, gI_sI, if_neg (by omega), if_pos ⟨rfl, rfl⟩]
  have pr : ∀ i, i < c + 1 → (b i < 5 ∧ 1 ≤ x i ∧ x i < 64 ∧ 1 ≤ p i ∧ p i ≤ 999) ∧ gI h0 116 i = ii (b i) ∧ gI h0 117 i = ii (p i) := fun i hi => by
    by_cases e : i = c
    · subst e; exact ⟨hn, g116c, g117c⟩
    · obtain ⟨q1, q2, q3⟩ := m2 i (by omega)
      exact ⟨q1, by rw [g116 i (by omega)]; exact q2, by rw [g117 i (by omega)]; exact q3⟩
  have sle : ∀ s, sP p s (c + 1) ≤ 9990 := fun s => by
    have := sP_le (p := p) (s := s) (m := c + 1) fun i hi => (pr i hi).1.2.2.2.2
    omega
  have ule : ∀ w k, um b x p (c + 1) w k ≤ 9990 := fun w k => um_le (fun i hi => (pr i hi).1.2.2.2.2) (by omega) k
  have hnd : ii (x c) ||| 1 <<< (6 + ii (b c) &&& 31) = ii (nd9 b x c) := by
    have e6 : (6 + ii (b c) : Int32) = ii (6 + b c) := ii_add 6 (b c)
    have hbt : (1 : Int32) <<< (ii (6 + b c) &&& 31) = ii (2 ^ (6 + b c)) := bitN_eq (6 + b c) (by omega)
    rw [e6, hbt, ii_or]
    rfl
  have ndl : nd9 b x c < 2048 := Nat.or_lt_two_pow (n := 11) (by omega) (Nat.pow_lt_pow_right (by omega) (by omega))
  obtain ⟨⟨g, w⟩, e1, F1, z1, z2, z3, z4, z5⟩ := loopR (fun Q k (a : Hp × Option MV) => WP Gm j_Market_add 51 [some (.inr (.inl (some 115))), some (.inl (ii (b c))), some (.inl (ii (x c))), some (.inl (ii (p c))), some (.inl (ii c)), some (.inl (ii (nd9 b x c))), some (.inl (ii (2 ^ c))), some (.inl (ii k)), a.2] [] a.1 Q)
    (fun k a => Fr (wA c) nW nW h0 a.1 ∧ (∀ s, s < 2 ^ c → gI a.1 119 s = gI h 119 s ∧ gI a.1 118 s = gI h 118 s) ∧ (∀ s, 2 ^ c ≤ s → s < 2 ^ c + k → TW9 b x p (c + 1) s a.1) ∧
      gI a.1 115 6 = ii (am b x p (c + 1) (2 ^ c + k)) ∧ gI a.1 115 7 = ii (sP p (am b x p (c + 1) (2 ^ c + k)) (c + 1)) ∧ ∀ w, w < 5 → gI a.1 120 w = ii (um b x p (c + 1) w (2 ^ c + k))) (2 ^ c)
    (fun k a hk hI => by
      obtain ⟨g, w⟩ := a
      dsimp only at hI ⊢
      obtain ⟨I1, I2, I3, I4, I5, I6⟩ := hI
      have Sg : Str n g := S0.fr I1 (by unfold wA; omega)
      have hk1 : k < 1024 := by omega
      have hs1 : k + 2 ^ c < 1024 := by omega
      have hor := or_low hk (show c < 31 by omega)
      have nk : (ii k).toNatClampNeg = k := ii_nat (by omega)
      have ns : (ii (k + 2 ^ c)).toNatClampNeg = k + 2 ^ c := ii_nat (by omega)
      have am1 : am b x p (c + 1) (2 ^ c + (k + 1)) = if va9 b x (k + 2 ^ c) (c + 1) = true ∧ sP p (am b x p (c + 1) (2 ^ c + k)) (c + 1) < sP p (k + 2 ^ c) (c + 1) then k + 2 ^ c else am b x p (c + 1) (2 ^ c + k) := by
        rw [show 2 ^ c + (k + 1) = (2 ^ c + k) + 1 from rfl, am_s, Nat.add_comm (2 ^ c) k]
      have um1 : ∀ w, um b x p (c + 1) w (2 ^ c + (k + 1)) = if va9 b x (k + 2 ^ c) (c + 1) = true ∧ ho b w (k + 2 ^ c) (c + 1) = false ∧ um b x p (c + 1) w (2 ^ c + k) < sP p (k + 2 ^ c) (c + 1) then sP p (k + 2 ^ c) (c + 1) else um b x p (c + 1) w (2 ^ c + k) := fun w => by
        rw [show 2 ^ c + (k + 1) = (2 ^ c + k) + 1 from rfl, um_s, Nat.add_comm (2 ^ c) k]
      have bad : ms b x (k + 2 ^ c) (c + 1) = none → (Fr (wA c) nW nW h0 (sI g 119 (k + 2 ^ c) (-1)) ∧ (∀ s, s < 2 ^ c → gI (sI g 119 (k + 2 ^ c) (-1)) 119 s = gI h 119 s ∧ gI (sI g 119 (k + 2 ^ c) (-1)) 118 s = gI h 118 s) ∧ (∀ s, 2 ^ c ≤ s → s < 2 ^ c + (k + 1) → TW9 b x p (c + 1) s (sI g 119 (k + 2 ^ c) (-1))) ∧
          gI (sI g 119 (k + 2 ^ c) (-1)) 115 6 = ii (am b x p (c + 1) (2 ^ c + (k + 1))) ∧ gI (sI g 119 (k + 2 ^ c) (-1)) 115 7 = ii (sP p (am b x p (c + 1) (2 ^ c + (k + 1))) (c + 1)) ∧ ∀ w, w < 5 → gI (sI g 119 (k + 2 ^ c) (-1)) 120 w = ii (um b x p (c + 1) w (2 ^ c + (k + 1)))) := by
        intro hm
        have hv : ¬ va9 b x (k + 2 ^ c) (c + 1) = true := by unfold va9; rw [hm]; decide
        rw [if_neg (fun q => hv q.1)] at am1
        refine ⟨I1.sI _ (by unfold wA; omega), fun s hs => ?_, fun s hs1 hs2 => ?_, ?_, ?_, fun w hw => ?_⟩
        · rw [gI_sI, gI_sI, if_neg (by omega), if_neg (by omega)]; exact I2 s hs
        · unfold TW9
          rw [gI_sI, gI_sI]
          by_cases e : s = k + 2 ^ c
          · rw [if_pos ⟨rfl, e⟩, e]; exact Or.inl ⟨hm, rfl⟩
          · rw [if_neg (by omega), if_neg (by omega)]; exact I3 s hs1 (by omega)
        · rw [gI_sI, if_neg (by omega), am1]; exact I4
        · rw [gI_sI, if_neg (by omega), am1]; exact I5
        · rw [gI_sI, if_neg (by omega), um1, if_neg (fun q => hv q.1)]; exact I6 w hw
      have mh := ms_high (b := b) (x := x) hk
      rcases m4 k hk with ⟨a1, a2⟩ | ⟨a, a1, a2, a3⟩
      · have c1 : gI g 119 k = -1 := by rw [(I2 k hk).1]; exact a2
        rw [a1] at mh
        refine ⟨(sI g 119 (k + 2 ^ c) (-1), some (.inl (ii (k + 2 ^ c)))), fun Q => ?_, bad mh⟩
        rw [e_Market_add_51]
        simp only [↓e_Market_add_0, ↓e_Market_add_1, ↓e_Market_add_4, ↓e_Market_add_6, ↓e_Market_add_7, ↓e_Market_add_8, ↓e_Market_add_11, ↓e_Market_add_12, ↓e_Market_add_13, ↓e_Market_add_16, ↓e_Market_add_17, ↓e_Market_add_20, ↓e_Market_add_22, ↓e_Market_add_23, ↓e_Market_add_24, ↓e_Market_add_25, ↓e_Market_add_28, ↓e_Market_add_30, ↓e_Market_add_31, ↓e_Market_add_32, ↓e_Market_add_33, ↓e_Market_add_34, ↓e_Market_add_36, ↓e_Market_add_37, ↓e_Market_add_38, ↓e_Market_add_39, ↓e_Market_add_40, ↓e_Market_add_42, ↓e_Market_add_43, ↓e_Market_add_45, ↓e_Market_add_46, ↓e_Market_add_48, ↓e_Market_add_49, ↓e_Market_add_53, ↓e_Market_add_55, ↓e_Market_add_58, ↓e_Market_add_60, ↓e_Market_add_62, ↓e_Market_add_63, ↓e_Market_add_65, ↓e_Market_add_66, ↓e_Market_add_69, ↓e_Market_add_71, ↓e_Market_add_72, ↓e_Market_add_73, ↓e_Market_add_76, ↓e_Market_add_77, ↓e_Market_add_80, ↓e_Market_add_82, ↓e_Market_add_83, ↓e_Market_add_85, ↓e_Market_add_86, ↓e_Market_add_89, ↓e_Market_add_90, ↓e_Market_add_93, ↓e_Market_add_95, ↓e_Market_add_96, ↓e_Market_add_97, ↓e_Market_add_100, ↓e_Market_add_101, ↓e_Market_add_104, ↓e_Market_add_106, ↓e_Market_add_107, ↓e_Market_add_110, ↓e_Market_add_112, ↓e_Market_add_113, ↓e_Market_add_114, ↓e_Market_add_115, ↓e_Market_add_116, ↓e_Market_add_117, ↓e_Market_add_120, ↓e_Market_add_122, ↓e_Market_add_123, ↓e_Market_add_126, ↓e_Market_add_128, ↓e_Market_add_129, ↓e_Market_add_131, ↓e_Market_add_132, ↓e_Market_add_133, ↓e_Market_add_134, ↓e_Market_add_136, ↓e_Market_add_139, ↓e_Market_add_142, ↓e_Market_add_145, ↓e_Market_add_147, not_true_eq_false, not_false_eq_true, one0, true_or, or_true, eq_self, bI_z, bI_nz, bI_o, b_ft, bI_1, bI_0, ↓kC_l, ↓kC_r, Option.toList_some, Option.toList_none, List.cons_append, List.nil_append, s1_0, s1_1i, s1_1r, s1_1w, s1_1n, s1_s, s2_0, s2_1i, s2_1r, s2_1w, s2_1n, s2_s, gI_sI, gI_sR, gI_sL, gI_sD, gR_sI, gR_sR, gR_sL, gR_sD, gL_sI, gL_sR, gL_sL, gL_sD, gD_sI, gD_sR, gD_sL, gD_sD, isK_sI, isK_sR, isK_sL, isK_sD, inL_sI, inL_sR, inL_sL, inL_sD, nx_sI, nx_sR, nx_sL, nx_sD, kd_sI, kd_sR, kd_sL, kd_sD, ln_sI, ln_sR, ln_sL, ln_sD, ↓reduceIte, c8_n, c8_1, c8_2, c8_3, c8_4, Nat.reduceAdd, k_market Sg, k_bid Sg, k_pri Sg, k_tak Sg, k_wor Sg, k_wwo Sg, r_bid Sg, r_pri Sg, r_tak Sg, r_wor Sg, r_wwo Sg, lle_f (show 2 ^ c < 2147483648 by omega) hk, ii_succ, hor, nk, ns, l_wor Sg hk1, l_wor Sg hs1, l_tak Sg hk1, c1, (show ¬ (119 : Nat) = 0 by decide)]
      · have sk := M.le k
        have c1 : ¬ gI g 119 k = -1 := by rw [(I2 k hk).1, a2]; exact ii_m1 (by omega)
        have alt : a < 2048 := ms_lt (fun i hi => ⟨(m2 i hi).1.2.2.1, (m2 i hi).1.1⟩) a a1
        have g118 : gI g 118 k = ii a := by rw [(I2 k hk).2]; exact a3
        have andl : a &&& nd9 b x c < 2048 := Nat.and_lt_two_pow (n := 11) _ ndl
        rw [a1] at mh
        dsimp only at mh
        by_cases c3 : a &&& nd9 b x c = 0
        · rw [if_pos c3] at mh
          have c2 : gI g 118 k &&& ii (nd9 b x c) = 0 := by rw [g118, ii_and, c3]; rfl
          have hv : va9 b x (k + 2 ^ c) (c + 1) = true := by unfold va9; rw [mh]; rfl
          have hsum : gI g 119 k + ii (p c) = ii (sP p (k + 2 ^ c) (c + 1)) := by
            rw [(I2 k hk).1, a2, sP_high hk, ii_add]
          have hmask : gI g 118 k ||| ii (nd9 b x c) = ii (a ||| nd9 b x c) := by rw [g118, ii_or]
          generalize hg2 : sI (sI g 119 (k + 2 ^ c) (gI g 119 k + ii (p c))) 118 (k + 2 ^ c) (gI g 118 k ||| ii (nd9 b x c)) = g2
          have S2 : Str n g2 := by rw [← hg2]; exact (Sg.sI _ (by omega)).sI _ (by omega)
          have F2 : Fr (wA c) nW nW h0 g2 := by rw [← hg2]; exact (I1.sI _ (by unfold wA; omega)).sI _ (by unfold wA; omega)
          obtain ⟨g3, r1, r2, r3, r4, r5⟩ := q_weighX S2 hs1
          have w2 : gI g2 119 (k + 2 ^ c) = ii (sP p (k + 2 ^ c) (c + 1)) := by rw [← hg2, gI_sI, if_neg (by omega), gI_sI, if_pos ⟨rfl, rfl⟩]; exact hsum
          have t2 : gI g2 118 (k + 2 ^ c) = ii (a ||| nd9 b x c) := by rw [← hg2, gI_sI, if_pos ⟨rfl, rfl⟩]; exact hmask
          have y2 : gI g2 115 7 = ii (sP p (am b x p (c + 1) (2 ^ c + k)) (c + 1)) := by rw [← hg2, gI_sI, if_neg (by omega), gI_sI, if_neg (by omega)]; exact I5
          have v2 : gI g2 115 6 = ii (am b x p (c + 1) (2 ^ c + k)) := by rw [← hg2, gI_sI, if_neg (by omega), gI_sI, if_neg (by omega)]; exact I4
          have x2 : ∀ w, w < 5 → gI g2 120 w = ii (um b x p (c + 1) w (2 ^ c + k)) := fun w hw => by rw [← hg2, gI_sI, if_neg (by omega), gI_sI, if_neg (by omega)]; exact I6 w hw
          have bit : ∀ w, w < 5 → tb (ii (a ||| nd9 b x c)) (6 + w) = ho b w (k + 2 ^ c) (c + 1) := fun w hw => by
            rw [tb_ii _ (by omega)]
            exact ms_bit (c := 0) (fun i hi => (pr i hi).1.2.2.1) _ mh
          have l1 := sle (k + 2 ^ c)
          have l2 := sle (am b x p (c + 1) (2 ^ c + k))
          have ltw : (gI g2 115 7 < gI g2 119 (k + 2 ^ c)) = (sP p (am b x p (c + 1) (2 ^ c + k)) (c + 1) < sP p (k + 2 ^ c) (c + 1)) := by
            rw [w2, y2, ii_lt (by omega) (by omega)]
          simp only [ltw] at r3 r4
          rw [w2, y2] at r3
          rw [v2] at r4
          refine ⟨(g3, some (.inl (ii (k + 2 ^ c)))), fun Q => ?_, F2.trans (r2.mono (fun a j q => by unfold wG at q; unfold wA; omega) (fun _ _ q => q) (fun _ _ q => q)), fun s hs => ?_, fun s hs1 hs2 => ?_, ?_, ?_, fun w hw => ?_⟩
          · rw [e_Market_add_51]
            simp only [↓e_Market_add_0, ↓e_Market_add_1, ↓e_Market_add_4, ↓e_Market_add_6, ↓e_Market_add_7, ↓e_Market_add_8, ↓e_Market_add_11, ↓e_Market_add_12, ↓e_Market_add_13, ↓e_Market_add_16, ↓e_Market_add_17, ↓e_Market_add_20, ↓e_Market_add_22, ↓e_Market_add_23, ↓e_Market_add_24, ↓e_Market_add_25, ↓e_Market_add_28, ↓e_Market_add_30, ↓e_Market_add_31, ↓e_Market_add_32, ↓e_Market_add_33, ↓e_Market_add_34, ↓e_Market_add_36, ↓e_Market_add_37, ↓e_Market_add_38, ↓e_Market_add_39, ↓e_Market_add_40, ↓e_Market_add_42, ↓e_Market_add_43, ↓e_Market_add_45, ↓e_Market_add_46, ↓e_Market_add_48, ↓e_Market_add_49, ↓e_Market_add_53, ↓e_Market_add_55, ↓e_Market_add_58, ↓e_Market_add_60, ↓e_Market_add_62, ↓e_Market_add_63, ↓e_Market_add_65, ↓e_Market_add_66, ↓e_Market_add_69, ↓e_Market_add_71, ↓e_Market_add_72, ↓e_Market_add_73, ↓e_Market_add_76, ↓e_Market_add_77, ↓e_Market_add_80, ↓e_Market_add_82, ↓e_Market_add_83, ↓e_Market_add_85, ↓e_Market_add_86, ↓e_Market_add_89, ↓e_Market_add_90, ↓e_Market_add_93, ↓e_Market_add_95, ↓e_Market_add_96, ↓e_Market_add_97, ↓e_Market_add_100, ↓e_Market_add_101, ↓e_Market_add_104, ↓e_Market_add_106, ↓e_Market_add_107, ↓e_Market_add_110, ↓e_Market_add_112, ↓e_Market_add_113, ↓e_Market_add_114, ↓e_Market_add_115, ↓e_Market_add_116, ↓e_Market_add_117, ↓e_Market_add_120, ↓e_Market_add_122, ↓e_Market_add_123, ↓e_Market_add_126, ↓e_Market_add_128, ↓e_Market_add_129, ↓e_Market_add_131, ↓e_Market_add_132, ↓e_Market_add_133, ↓e_Market_add_134, ↓e_Market_add_136, ↓e_Market_add_139, ↓e_Market_add_142, ↓e_Market_add_145, ↓e_Market_add_147, not_true_eq_false, not_false_eq_true, one0, true_or, or_true, eq_self, bI_z, bI_nz, bI_o, b_ft, bI_1, bI_0, ↓kC_l, ↓kC_r, Option.toList_some, Option.toList_none, List.cons_append, List.nil_append, s1_0, s1_1i, s1_1r, s1_1w, s1_1n, s1_s, s2_0, s2_1i, s2_1r, s2_1w, s2_1n, s2_s, gI_sI, gI_sR, gI_sL, gI_sD, gR_sI, gR_sR, gR_sL, gR_sD, gL_sI, gL_sR, gL_sL, gL_sD, gD_sI, gD_sR, gD_sL, gD_sD, isK_sI, isK_sR, isK_sL, isK_sD, inL_sI, inL_sR, inL_sL, inL_sD, nx_sI, nx_sR, nx_sL, nx_sD, kd_sI, kd_sR, kd_sL, kd_sD, ln_sI, ln_sR, ln_sL, ln_sD, ↓reduceIte, c8_n, c8_1, c8_2, c8_3, c8_4, Nat.reduceAdd, k_market Sg, k_bid Sg, k_pri Sg, k_tak Sg, k_wor Sg, k_wwo Sg, r_bid Sg, r_pri Sg, r_tak Sg, r_wor Sg, r_wwo Sg, lle_f (show 2 ^ c < 2147483648 by omega) hk, ii_succ, hor, nk, ns, l_wor Sg hk1, l_wor Sg hs1, l_tak Sg hk1, l_tak Sg hs1, c1, c2, (show ¬ (119 : Nat) = 0 by decide), (show ¬ (118 : Nat) = 0 by decide), (show ¬ (118 : Nat) = 119 by decide), false_and, hg2, k_market S2, r1]
          · rw [r2.1 119 s (by unfold wG; omega), r2.1 118 s (by unfold wG; omega), ← hg2, gI_sI, if_neg (by omega), gI_sI, if_neg (by omega), gI_sI, if_neg (by omega), gI_sI, if_neg (by omega)]
            exact I2 s hs
          · unfold TW9
            rw [r2.1 119 s (by unfold wG; omega), r2.1 118 s (by unfold wG; omega)]
            by_cases e : s = k + 2 ^ c
            · subst e; exact Or.inr ⟨_, mh, w2, t2⟩
            · rw [← hg2, gI_sI, if_neg (by omega), gI_sI, if_neg (by omega), gI_sI, if_neg (by omega), gI_sI, if_neg (by omega)]
              exact I3 s hs1 (by omega)
          · rw [r4, am1]
            by_cases q : sP p (am b x p (c + 1) (2 ^ c + k)) (c + 1) < sP p (k + 2 ^ c) (c + 1)
            · rw [if_pos q, if_pos ⟨hv, q⟩]
            · rw [if_neg q, if_neg (fun z => q z.2)]
          · rw [r3, am1]
            by_cases q : sP p (am b x p (c + 1) (2 ^ c + k)) (c + 1) < sP p (k + 2 ^ c) (c + 1)
            · rw [if_pos q, if_pos ⟨hv, q⟩]
            · rw [if_neg q, if_neg (fun z => q z.2)]
          · have l3 := ule w (2 ^ c + k)
            have ltu : (ii (um b x p (c + 1) w (2 ^ c + k)) < ii (sP p (k + 2 ^ c) (c + 1))) = (um b x p (c + 1) w (2 ^ c + k) < sP p (k + 2 ^ c) (c + 1)) := ii_lt (by omega) (by omega)
            rw [r5 w hw, t2, w2, x2 w hw, bit w hw, um1]
            simp only [ltu]
            cases hh : ho b w (k + 2 ^ c) (c + 1) with
            | true => rw [if_neg (by simp), if_neg (fun z => by cases z.2.1)]
            | false =>
              by_cases q : um b x p (c + 1) w (2 ^ c + k) < sP p (k + 2 ^ c) (c + 1)
              · rw [if_pos (by simp [q]), if_pos ⟨hv, rfl, q⟩]
              · rw [if_neg (by simp [q]), if_neg (fun z => q z.2.2)]
        · rw [if_neg c3] at mh
          have c2 : ¬ gI g 118 k &&& ii (nd9 b x c) = 0 := by
            rw [g118, ii_and, show (0 : Int32) = ii 0 from rfl, ii_inj (by omega) (by omega)]
            exact c3
          refine ⟨(sI g 119 (k + 2 ^ c) (-1), some (.inl (ii (k + 2 ^ c)))), fun Q => ?_, bad mh⟩
          rw [e_Market_add_51]
          simp only [↓e_Market_add_0, ↓e_Market_add_1, ↓e_Market_add_4, ↓e_Market_add_6, ↓e_Market_add_7, ↓e_Market_add_8, ↓e_Market_add_11, ↓e_Market_add_12, ↓e_Market_add_13, ↓e_Market_add_16, ↓e_Market_add_17, ↓e_Market_add_20, ↓e_Market_add_22, ↓e_Market_add_23, ↓e_Market_add_24, ↓e_Market_add_25, ↓e_Market_add_28, ↓e_Market_add_30, ↓e_Market_add_31, ↓e_Market_add_32, ↓e_Market_add_33, ↓e_Market_add_34, ↓e_Market_add_36, ↓e_Market_add_37, ↓e_Market_add_38, ↓e_Market_add_39, ↓e_Market_add_40, ↓e_Market_add_42, ↓e_Market_add_43, ↓e_Market_add_45, ↓e_Market_add_46, ↓e_Market_add_48, ↓e_Market_add_49, ↓e_Market_add_53, ↓e_Market_add_55, ↓e_Market_add_58, ↓e_Market_add_60, ↓e_Market_add_62, ↓e_Market_add_63, ↓e_Market_add_65, ↓e_Market_add_66, ↓e_Market_add_69, ↓e_Market_add_71, ↓e_Market_add_72, ↓e_Market_add_73, ↓e_Market_add_76, ↓e_Market_add_77, ↓e_Market_add_80, ↓e_Market_add_82, ↓e_Market_add_83, ↓e_Market_add_85, ↓e_Market_add_86, ↓e_Market_add_89, ↓e_Market_add_90, ↓e_Market_add_93, ↓e_Market_add_95, ↓e_Market_add_96, ↓e_Market_add_97, ↓e_Market_add_100, ↓e_Market_add_101, ↓e_Market_add_104, ↓e_Market_add_106, ↓e_Market_add_107, ↓e_Market_add_110, ↓e_Market_add_112, ↓e_Market_add_113, ↓e_Market_add_114, ↓e_Market_add_115, ↓e_Market_add_116, ↓e_Market_add_117, ↓e_Market_add_120, ↓e_Market_add_122, ↓e_Market_add_123, ↓e_Market_add_126, ↓e_Market_add_128, ↓e_Market_add_129, ↓e_Market_add_131, ↓e_Market_add_132, ↓e_Market_add_133, ↓e_Market_add_134, ↓e_Market_add_136, ↓e_Market_add_139, ↓e_Market_add_142, ↓e_Market_add_145, ↓e_Market_add_147, not_true_eq_false, not_false_eq_true, one0, true_or, or_true, eq_self, bI_z, bI_nz, bI_o, b_ft, bI_1, bI_0, ↓kC_l, ↓kC_r, Option.toList_some, Option.toList_none, List.cons_append, List.nil_append, s1_0, s1_1i, s1_1r, s1_1w, s1_1n, s1_s, s2_0, s2_1i, s2_1r, s2_1w, s2_1n, s2_s, gI_sI, gI_sR, gI_sL, gI_sD, gR_sI, gR_sR, gR_sL, gR_sD, gL_sI, gL_sR, gL_sL, gL_sD, gD_sI, gD_sR, gD_sL, gD_sD, isK_sI, isK_sR, isK_sL, isK_sD, inL_sI, inL_sR, inL_sL, inL_sD, nx_sI, nx_sR, nx_sL, nx_sD, kd_sI, kd_sR, kd_sL, kd_sD, ln_sI, ln_sR, ln_sL, ln_sD, ↓reduceIte, c8_n, c8_1, c8_2, c8_3, c8_4, Nat.reduceAdd, k_market Sg, k_bid Sg, k_pri Sg, k_tak Sg, k_wor Sg, k_wwo Sg, r_bid Sg, r_pri Sg, r_tak Sg, r_wor Sg, r_wwo Sg, lle_f (show 2 ^ c < 2147483648 by omega) hk, ii_succ, hor, nk, ns, l_wor Sg hk1, l_wor Sg hs1, l_tak Sg hk1, c1, c2, (show ¬ (119 : Nat) = 0 by decide)]) (2 ^ c) 0 (h0, none) (by omega)
    (by
      have al : am b x p c (2 ^ c) < 2 ^ c := am_lt hp0
      refine ⟨Fr.refl h0, fun s _ => ⟨gother _ _ (by omega), gother _ _ (by omega)⟩, fun s q1 q2 => by omega, ?_, ?_, fun w hw => ?_⟩
      · rw [gother 115 6 (by omega), Nat.add_zero (2 ^ c), am_up (Nat.le_refl _)]; exact m5
      · rw [gother 115 7 (by omega), Nat.add_zero (2 ^ c), am_up (Nat.le_refl _), sP_low al]; exact m6
      · rw [gother 120 w (by omega), Nat.add_zero (2 ^ c), um_up (Nat.le_refl _)]; exact m7 w hw)
  dsimp only at e1 F1 z1 z2 z3 z4 z5
  have S1 : Str n g := S0.fr F1 (by unfold wA; omega)
  refine ⟨g, fun Q => ?_, F0.trans (F1.mono (fun a k q => by unfold wA at q; unfold wM; omega) (fun _ _ q => q) (fun _ _ q => q)), by omega, fun i hi => ?_, by rw [F1.1 115 5 (by unfold wA; omega)]; exact g115, fun s hs => ?_, ?_, ?_, fun w hw => ?_⟩
  · have hbit : (1 <<< (ii c &&& 31) : Int32) = ii (2 ^ c) := bitN_eq c (by omega)
    simp only [↓e_Market_add_0, ↓e_Market_add_1, ↓e_Market_add_4, ↓e_Market_add_6, ↓e_Market_add_7, ↓e_Market_add_8, ↓e_Market_add_11, ↓e_Market_add_12, ↓e_Market_add_13, ↓e_Market_add_16, ↓e_Market_add_17, ↓e_Market_add_20, ↓e_Market_add_22, ↓e_Market_add_23, ↓e_Market_add_24, ↓e_Market_add_25, ↓e_Market_add_28, ↓e_Market_add_30, ↓e_Market_add_31, ↓e_Market_add_32, ↓e_Market_add_33, ↓e_Market_add_34, ↓e_Market_add_36, ↓e_Market_add_37, ↓e_Market_add_38, ↓e_Market_add_39, ↓e_Market_add_40, ↓e_Market_add_42, ↓e_Market_add_43, ↓e_Market_add_45, ↓e_Market_add_46, ↓e_Market_add_48, ↓e_Market_add_49, ↓e_Market_add_53, ↓e_Market_add_55, ↓e_Market_add_58, ↓e_Market_add_60, ↓e_Market_add_62, ↓e_Market_add_63, ↓e_Market_add_65, ↓e_Market_add_66, ↓e_Market_add_69, ↓e_Market_add_71, ↓e_Market_add_72, ↓e_Market_add_73, ↓e_Market_add_76, ↓e_Market_add_77, ↓e_Market_add_80, ↓e_Market_add_82, ↓e_Market_add_83, ↓e_Market_add_85, ↓e_Market_add_86, ↓e_Market_add_89, ↓e_Market_add_90, ↓e_Market_add_93, ↓e_Market_add_95, ↓e_Market_add_96, ↓e_Market_add_97, ↓e_Market_add_100, ↓e_Market_add_101, ↓e_Market_add_104, ↓e_Market_add_106, ↓e_Market_add_107, ↓e_Market_add_110, ↓e_Market_add_112, ↓e_Market_add_113, ↓e_Market_add_114, ↓e_Market_add_115, ↓e_Market_add_116, ↓e_Market_add_117, ↓e_Market_add_120, ↓e_Market_add_122, ↓e_Market_add_123, ↓e_Market_add_126, ↓e_Market_add_128, ↓e_Market_add_129, ↓e_Market_add_131, ↓e_Market_add_132, ↓e_Market_add_133, ↓e_Market_add_134, ↓e_Market_add_136, ↓e_Market_add_139, ↓e_Market_add_142, ↓e_Market_add_145, ↓e_Market_add_147, not_true_eq_false, not_false_eq_true, one0, true_or, or_true, eq_self, bI_z, bI_nz, bI_o, b_ft, bI_1, bI_0, ↓kC_l, ↓kC_r, Option.toList_some, Option.toList_none, List.cons_append, List.nil_append, s1_0, s1_1i, s1_1r, s1_1w, s1_1n, s1_s, s2_0, s2_1i, s2_1r, s2_1w, s2_1n, s2_s, gI_sI, gI_sR, gI_sL, gI_sD, gR_sI, gR_sR, gR_sL, gR_sD, gL_sI, gL_sR, gL_sL, gL_sD, gD_sI, gD_sR, gD_sL, gD_sD, isK_sI, isK_sR, isK_sL, isK_sD, inL_sI, inL_sR, inL_sL, inL_sD, nx_sI, nx_sR, nx_sL, nx_sD, kd_sI, kd_sR, kd_sL, kd_sD, ln_sI, ln_sR, ln_sL, ln_sD, ↓reduceIte, c8_n, c8_1, c8_2, c8_3, c8_4, Nat.reduceAdd, k_market S, k_bid S, k_pri S, k_tak S, k_wor S, k_wwo S, r_bid S, r_pri S, r_tak S, r_wor S, r_wwo S, hc, ii_succ, l_bid S hc10, l_pri S hc10, ii_nat (show c < 2147483648 by omega), (show ¬ (116 : Nat) = 0 by decide), (show ¬ (117 : Nat) = 0 by decide), hh0, hnd, hbit]
    refine (e1 Q).trans ?_
    rw [e_Market_add_51]
    simp only [↓e_Market_add_0, ↓e_Market_add_1, ↓e_Market_add_4, ↓e_Market_add_6, ↓e_Market_add_7, ↓e_Market_add_8, ↓e_Market_add_11, ↓e_Market_add_12, ↓e_Market_add_13, ↓e_Market_add_16, ↓e_Market_add_17, ↓e_Market_add_20, ↓e_Market_add_22, ↓e_Market_add_23, ↓e_Market_add_24, ↓e_Market_add_25, ↓e_Market_add_28, ↓e_Market_add_30, ↓e_Market_add_31, ↓e_Market_add_32, ↓e_Market_add_33, ↓e_Market_add_34, ↓e_Market_add_36, ↓e_Market_add_37, ↓e_Market_add_38, ↓e_Market_add_39, ↓e_Market_add_40, ↓e_Market_add_42, ↓e_Market_add_43, ↓e_Market_add_45, ↓e_Market_add_46, ↓e_Market_add_48, ↓e_Market_add_49, ↓e_Market_add_53, ↓e_Market_add_55, ↓e_Market_add_58, ↓e_Market_add_60, ↓e_Market_add_62, ↓e_Market_add_63, ↓e_Market_add_65, ↓e_Market_add_66, ↓e_Market_add_69, ↓e_Market_add_71, ↓e_Market_add_72, ↓e_Market_add_73, ↓e_Market_add_76, ↓e_Market_add_77, ↓e_Market_add_80, ↓e_Market_add_82, ↓e_Market_add_83, ↓e_Market_add_85, ↓e_Market_add_86, ↓e_Market_add_89, ↓e_Market_add_90, ↓e_Market_add_93, ↓e_Market_add_95, ↓e_Market_add_96, ↓e_Market_add_97, ↓e_Market_add_100, ↓e_Market_add_101, ↓e_Market_add_104, ↓e_Market_add_106, ↓e_Market_add_107, ↓e_Market_add_110, ↓e_Market_add_112, ↓e_Market_add_113, ↓e_Market_add_114, ↓e_Market_add_115, ↓e_Market_add_116, ↓e_Market_add_117, ↓e_Market_add_120, ↓e_Market_add_122, ↓e_Market_add_123, ↓e_Market_add_126, ↓e_Market_add_128, ↓e_Market_add_129, ↓e_Market_add_131, ↓e_Market_add_132, ↓e_Market_add_133, ↓e_Market_add_134, ↓e_Market_add_136, ↓e_Market_add_139, ↓e_Market_add_142, ↓e_Market_add_145, ↓e_Market_add_147, not_true_eq_false, not_false_eq_true, one0, true_or, or_true, eq_self, bI_z, bI_nz, bI_o, b_ft, bI_1, bI_0, ↓kC_l, ↓kC_r, Option.toList_some, Option.toList_none, List.cons_append, List.nil_append, s1_0, s1_1i, s1_1r, s1_1w, s1_1n, s1_s, s2_0, s2_1i, s2_1r, s2_1w, s2_1n, s2_s, gI_sI, gI_sR, gI_sL, gI_sD, gR_sI, gR_sR, gR_sL, gR_sD, gL_sI, gL_sR, gL_sL, gL_sD, gD_sI, gD_sR, gD_sL, gD_sD, isK_sI, isK_sR, isK_sL, isK_sD, inL_sI, inL_sR, inL_sL, inL_sD, nx_sI, nx_sR, nx_sL, nx_sD, kd_sI, kd_sR, kd_sL, kd_sD, ln_sI, ln_sR, ln_sL, ln_sD, ↓reduceIte, c8_n, c8_1, c8_2, c8_3, c8_4, Nat.reduceAdd, k_market S1, k_bid S1, k_pri S1, k_tak S1, k_wor S1, k_wwo S1, r_bid S1, r_pri S1, r_tak S1, r_wor S1, r_wwo S1, lle_t (show 2 ^ c < 2147483648 by omega)]
  · rw [F1.1 116 i (by unfold wA; omega), F1.1 117 i (by unfold wA; omega)]
    exact pr i hi
  · by_cases hs1 : s < 2 ^ c
    · rw [(z1 s hs1).1, (z1 s hs1).2, ms_low hs1, sP_low hs1]
      exact m4 s hs1
    · exact z2 s (by omega) (by omega)
  · rw [hpw]; exact z3
  · rw [hpw]; exact z4
  · rw [hpw]; exact z5 w hw
theorem MX.zero (h1 : gI h 119 0 = 0) (h8 : gI h 118 0 = 0) (h5 : gI h 115 5 = 0) (h2 : gI h 115 6 = 0) (h3 : gI h 115 7 = 0) (h4 : ∀ b, b < 5 → gI h 120 b = 0) : MX b x p 0 h := by
  have v0 : va9 b x 0 0 = true := rfl
  have a1 : am b x p 0 (2 ^ 0) = 0 := by
    show am b x p 0 1 = 0
    rw [am_s]
    split <;> rfl
  have u1 : ∀ w, um b x p 0 w (2 ^ 0) = 0 := fun w => by
    show um b x p 0 w 1 = 0
    rw [um_s]
    split <;> rfl
  refine ⟨by omega, fun i hi => absurd hi (by omega), h5, fun s hs => ?_, by rw [a1]; exact h2, by rw [a1]; exact h3, fun w hw => by rw [u1]; exact h4 w hw⟩
  have : s = 0 := by
    have : 2 ^ 0 = 1 := rfl
    omega
  subst this
  exact Or.inr ⟨0, rfl, h1, h8⟩
/-- what is paid for all bids -/
def all9 (b x p : Nat → Nat) (c : Nat) : Int32 := 0 + pay9 b x p c 0 + pay9 b x p c 1 + pay9 b x p c 2 + pay9 b x p c 3 + pay9 b x p c 4
theorem q_sellAllX (S : Str n h) (M : MX b x p c h) (z8 : gI h 118 0 = 0) (b' x' p' : Nat → Nat) : ∃ h', (∀ Q, WP Gm j_Market_sellAll 0 [some (.inr (.inl (some 115))), none, none] [] h Q = Q (.inl (some (.inl (all9 b x p c)))) h') ∧ Fr wM nW nW h h' ∧ MX b' x' p' 0 h' ∧ gI h' 118 0 = 0 ∧ gI h' 115 8 = gI h 115 8 + all9 b x p c := by
  have hc := M.2.2.1
  have hc10 := M.1
  have step := fun Q => loop0 (fun k (s : Int32) => WP Gm j_Market_sellAll 4 [some (.inr (.inl (some 115))), some (.inl s), some (.inl (ii k))] [] h Q) (fun k s => s + pay9 b x p c k) 5
    (fun k s hk => by
      rw [e_Market_sellAll_4]
      simp only [↓e_Market_sellAll_0, ↓e_Market_sellAll_1, ↓e_Market_sellAll_2, ↓e_Market_sellAll_3, ↓e_Market_sellAll_5, ↓e_Market_sellAll_6, ↓e_Market_sellAll_9, ↓e_Market_sellAll_10, ↓e_Market_sellAll_11, ↓e_Market_sellAll_12, ↓e_Market_sellAll_15, ↓e_Market_sellAll_16, ↓e_Market_sellAll_17, ↓e_Market_sellAll_20, ↓e_Market_sellAll_23, ↓e_Market_sellAll_24, ↓e_Market_sellAll_25, ↓e_Market_sellAll_28, ↓e_Market_sellAll_29, ↓e_Market_sellAll_30, ↓e_Market_sellAll_33, ↓e_Market_sellAll_34, ↓e_Market_sellAll_37, ↓e_Market_sellAll_38, not_true_eq_false, not_false_eq_true, one0, true_or, or_true, eq_self, bI_z, bI_nz, bI_o, b_ft, bI_1, bI_0, ↓kC_l, ↓kC_r, Option.toList_some, Option.toList_none, List.cons_append, List.nil_append, s1_0, s1_1i, s1_1r, s1_1w, s1_1n, s1_s, s2_0, s2_1i, s2_1r, s2_1w, s2_1n, s2_s, gI_sI, gI_sR, gI_sL, gI_sD, gR_sI, gR_sR, gR_sL, gR_sD, gL_sI, gL_sR, gL_sL, gL_sD, gD_sI, gD_sR, gD_sL, gD_sD, isK_sI, isK_sR, isK_sL, isK_sD, inL_sI, inL_sR, inL_sL, inL_sD, nx_sI, nx_sR, nx_sL, nx_sD, kd_sI, kd_sR, kd_sL, kd_sD, ln_sI, ln_sR, ln_sL, ln_sD, ↓reduceIte, c8_n, c8_1, c8_2, c8_3, c8_4, Nat.reduceAdd, k_market S, k_bid S, k_pri S, k_tak S, k_wor S, k_wwo S, r_bid S, r_pri S, r_tak S, r_wor S, r_wwo S, l5_f hk, ii_succ, q_paidBy _ S hc hc10 hk, M.pb hk]) 5 0 0 (by omega)
  have hs : upto (fun k s => s + pay9 b x p c k) 5 0 0 = all9 b x p c := rfl
  rw [hs] at step
  have S1 : Str n (sI h 115 8 (gI h 115 8 + all9 b x p c)) := S.sI _ (by omega)
  obtain ⟨h2, e2, F2, z1, z2, z3, z4⟩ := q_forget S1
  have k119 : gI h2 119 0 = gI h 119 0 := by rw [F2.1 119 0 (by unfold wF; omega), gI_sI, if_neg (by omega)]
  have k118 : gI h2 118 0 = gI h 118 0 := by rw [F2.1 118 0 (by unfold wF; omega), gI_sI, if_neg (by omega)]
  have ms0 : ∀ m, ms b x 0 m = some 0 := fun m => by
    induction m with
    | zero => rfl
    | succ m ih => rw [ms_s, Nat.zero_testBit, if_neg (by decide), ih]
  have w0 : gI h 119 0 = 0 := by
    rcases M.2.2.2.1 0 (Nat.two_pow_pos c) with ⟨q1, -⟩ | ⟨a, q1, q2, q3⟩
    · rw [ms0] at q1; cases q1
    · rw [q2, sP_0]; rfl
  refine ⟨h2, fun Q => ?_, ((Fr.refl h).sI (WI := wM) _ (by unfold wM; omega)).trans (F2.mono (fun a k q => by unfold wF at q; unfold wM; omega) (fun _ _ q => q) (fun _ _ q => q)), MX.zero (by rw [k119]; exact w0) (by rw [k118]; exact z8) z1 z2 z3 z4, by rw [k118]; exact z8, ?_⟩
  · simp only [↓e_Market_sellAll_0, ↓e_Market_sellAll_1, ↓e_Market_sellAll_2, ↓e_Market_sellAll_3, ↓e_Market_sellAll_5, ↓e_Market_sellAll_6, ↓e_Market_sellAll_9, ↓e_Market_sellAll_10, ↓e_Market_sellAll_11, ↓e_Market_sellAll_12, ↓e_Market_sellAll_15, ↓e_Market_sellAll_16, ↓e_Market_sellAll_17, ↓e_Market_sellAll_20, ↓e_Market_sellAll_23, ↓e_Market_sellAll_24, ↓e_Market_sellAll_25, ↓e_Market_sellAll_28, ↓e_Market_sellAll_29, ↓e_Market_sellAll_30, ↓e_Market_sellAll_33, ↓e_Market_sellAll_34, ↓e_Market_sellAll_37, ↓e_Market_sellAll_38, not_true_eq_false, not_false_eq_true, one0, true_or, or_true, eq_self, bI_z, bI_nz, bI_o, b_ft, bI_1, bI_0, ↓kC_l, ↓kC_r, Option.toList_some, Option.toList_none, List.cons_append, List.nil_append, s1_0, s1_1i, s1_1r, s1_1w, s1_1n, s1_s, s2_0, s2_1i, s2_1r, s2_1w, s2_1n, s2_s, gI_sI, gI_sR, gI_sL, gI_sD, gR_sI, gR_sR, gR_sL, gR_sD, gL_sI, gL_sR, gL_sL, gL_sD, gD_sI, gD_sR, gD_sL, gD_sD, isK_sI, isK_sR, isK_sL, isK_sD, inL_sI, inL_sR, inL_sL, inL_sD, nx_sI, nx_sR, nx_sL, nx_sD, kd_sI, kd_sR, kd_sL, kd_sD, ln_sI, ln_sR, ln_sL, ln_sD, ↓reduceIte, c8_n, c8_1, c8_2, c8_3, c8_4, Nat.reduceAdd]
    refine (step Q).trans ?_
    rw [e_Market_sellAll_4]
    simp only [↓e_Market_sellAll_0, ↓e_Market_sellAll_1, ↓e_Market_sellAll_2, ↓e_Market_sellAll_3, ↓e_Market_sellAll_5, ↓e_Market_sellAll_6, ↓e_Market_sellAll_9, ↓e_Market_sellAll_10, ↓e_Market_sellAll_11, ↓e_Market_sellAll_12, ↓e_Market_sellAll_15, ↓e_Market_sellAll_16, ↓e_Market_sellAll_17, ↓e_Market_sellAll_20, ↓e_Market_sellAll_23, ↓e_Market_sellAll_24, ↓e_Market_sellAll_25, ↓e_Market_sellAll_28, ↓e_Market_sellAll_29, ↓e_Market_sellAll_30, ↓e_Market_sellAll_33, ↓e_Market_sellAll_34, ↓e_Market_sellAll_37, ↓e_Market_sellAll_38, not_true_eq_false, not_false_eq_true, one0, true_or, or_true, eq_self, bI_z, bI_nz, bI_o, b_ft, bI_1, bI_0, ↓kC_l, ↓kC_r, Option.toList_some, Option.toList_none, List.cons_append, List.nil_append, s1_0, s1_1i, s1_1r, s1_1w, s1_1n, s1_s, s2_0, s2_1i, s2_1r, s2_1w, s2_1n, s2_s, gI_sI, gI_sR, gI_sL, gI_sD, gR_sI, gR_sR, gR_sL, gR_sD, gL_sI, gL_sR, gL_sL, gL_sD, gD_sI, gD_sR, gD_sL, gD_sD, isK_sI, isK_sR, isK_sL, isK_sD, inL_sI, inL_sR, inL_sL, inL_sD, nx_sI, nx_sR, nx_sL, nx_sD, kd_sI, kd_sR, kd_sL, kd_sD, ln_sI, ln_sR, ln_sL, ln_sD, ↓reduceIte, c8_n, c8_1, c8_2, c8_3, c8_4, Nat.reduceAdd, k_market S, k_bid S, k_pri S, k_tak S, k_wor S, k_wwo S, r_bid S, r_pri S, r_tak S, r_wor S, r_wwo S, l5_t, e2]
  · rw [F2.1 115 8 (by unfold wF; omega), gI_sI, if_pos ⟨rfl, rfl⟩]
end XM3
