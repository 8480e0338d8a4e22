/-! pmread: the reference with its roles; what it asks without a change: gets, isSuspect, way -/
theorem and01 (v : Int32) : v &&& 1 = 0 ∨ v &&& 1 = 1 := by
  have e : v &&& 1 = ii (v.toBitVec.toNat % 2) := by
    apply Int32.toBitVec_inj.mp
    apply BitVec.eq_of_toNat_eq
    rw [Int32.toBitVec_and, BitVec.toNat_and, show (1 : Int32).toBitVec.toNat = 2 ^ 1 - 1 by decide, Nat.and_two_pow_sub_one_eq_mod]
    show _ = (BitVec.ofNat 32 (v.toBitVec.toNat % 2)).toNat
    rw [BitVec.toNat_ofNat, Nat.mod_eq_of_lt (a := v.toBitVec.toNat % 2) (by omega)]
  have h2 : v.toBitVec.toNat % 2 = 0 ∨ v.toBitVec.toNat % 2 = 1 := by omega
  rcases h2 with h2 | h2
  · exact Or.inl (by rw [e, h2]; rfl)
  · exact Or.inr (by rw [e, h2]; rfl)
theorem bit_z (s : Int32) (i : Nat) : ((s >>> (ii i &&& 31)) &&& 1 = 0) = (tb s i = false) := by
  unfold tb
  by_cases hc : (s >>> (ii i &&& 31)) &&& 1 = 0
  · simp [hc]
  · simp [hc]
theorem bit_o (s : Int32) (i : Nat) : ((s >>> (ii i &&& 31)) &&& 1 = 1) = (tb s i = true) := by
  rcases and01 (s >>> (ii i &&& 31)) with hc | hc
  · have : tb s i = false := by rw [← bit_z, hc]
    rw [this, hc]
    simp
  · have : ¬ tb s i = false := by rw [← bit_z, hc]; decide
    rw [hc]
    cases hb : tb s i with
    | true => simp
    | false => exact absurd hb this
section MRD
variable {τ : Nat → Nat} {n A c B : Nat} {K : Int32} {p : Nat → Nat} {h : Hp}
theorem q_mtb (Q : MRes → Hp → Prop) (s : Int32) (i : Nat) : WP Gm j_Mdl_has 0 [some (.inl s), some (.inl (ii i))] [] h Q = Q (.inl (some (.inl (bI (tb s i))))) h := by
  rw [q_mhas Q s i]
  simp only [bit_o]
  cases tb s i <;> rfl
theorem RM.F (R : RM τ n p A c B K h) : Fs τ h := R.1
theorem RM.k (R : RM τ n p A c B K h) : isK h 121 kc_Mdl = true := R.2.1.1
theorem RM.r9 (R : RM τ n p A c B K h) : gR h 121 9 = some 122 := R.2.1.2.1
theorem RM.r10 (R : RM τ n p A c B K h) : gR h 121 10 = some 123 := R.2.1.2.2.1
theorem RM.r11 (R : RM τ n p A c B K h) : gR h 121 11 = some 124 := R.2.1.2.2.2.1
theorem RM.sl (R : RM τ n p A c B K h) : gI h 121 1 = ii B := R.2.1.2.2.2.2.1
theorem RM.b2 (R : RM τ n p A c B K h) : B ≤ 2000 := R.2.1.2.2.2.2.2.1
theorem RM.kn (R : RM τ n p A c B K h) : gI h 121 8 = K := R.2.1.2.2.2.2.2.2
theorem RM.n8 (R : RM τ n p A c B K h) : n ≤ 8 := R.2.2.1.1
theorem RM.t1 (R : RM τ n p A c B K h) : τ 121 = 2 := R.1.2.2.2.1
theorem RM.t2 (R : RM τ n p A c B K h) : τ 122 = 3 := R.1.2.2.2.2.1
theorem RM.t3 (R : RM τ n p A c B K h) : τ 123 = 4 := R.1.2.2.2.2.2.1
theorem RM.t4 (R : RM τ n p A c B K h) : τ 124 = 5 := R.1.2.2.2.2.2.2
theorem RM.nl (R : RM τ n p A c B K h) : ∃ c, (c = 0 ∨ c = 10) ∧ Lst τ h 122 6 (fun j f => f = p j) n c := R.2.2.1.2
theorem RM.nd (R : RM τ n p A c B K h) {i : Nat} (hi : i < n) : NS τ p h i ∧ NR n p h i ∧ QL τ p h i ∧ VL n p h i ∧ NA B p h i := R.2.2.2.1 i hi
theorem RM.fr (R : RM τ n p A c B K h) {f : Nat} (hf : τ f = 9) : FRf n h f := R.2.2.2.2.1 f hf
theorem RM.al (R : RM τ n p A c B K h) : AL τ A c h := R.2.2.2.2.2.1
theorem RM.ae (R : RM τ n p A c B K h) {f : Nat} (hf : τ f = 10) : AEf h f := R.2.2.2.2.2.2.1 f hf
theorem RM.bl (R : RM τ n p A c B K h) : BL τ h := R.2.2.2.2.2.2.2.1
theorem RM.be (R : RM τ n p A c B K h) {f : Nat} (hf : τ f = 11) : BEf h f := R.2.2.2.2.2.2.2.2 f hf
theorem RM.nk (R : RM τ n p A c B K h) {i : Nat} (hi : i < n) : isK h (p i) kc_MNode = true := (R.nd hi).1.2.1
theorem RM.nt (R : RM τ n p A c B K h) {i : Nat} (hi : i < n) : τ (p i) = 16 + 8 * i := (R.nd hi).1.1.1
theorem RM.nz (R : RM τ n p A c B K h) {i : Nat} (hi : i < n) : ¬ p i = 0 := fun e => by
  have h1 := R.nt hi
  rw [e, R.1.2.2.1 0 (by omega)] at h1
  omega
theorem RM.inj (R : RM τ n p A c B K h) {i j : Nat} (hi : i < n) (hj : j < n) (e : p i = p j) : i = j := by
  have h1 := R.nt hi
  have h2 := R.nt hj
  rw [e] at h1
  omega
theorem RM.k122 (R : RM τ n p A c B K h) : isK h 122 kc_ArrayList = true := by
  obtain ⟨c, -, L⟩ := R.nl
  exact L.kd
theorem RM.k123 (R : RM τ n p A c B K h) : isK h 123 kc_ArrayList = true := by
  obtain ⟨k, -, -, L⟩ := R.al
  exact L.kd
theorem RM.k124 (R : RM τ n p A c B K h) : isK h 124 kc_ArrayList = true := by
  obtain ⟨k, c, -, -, L⟩ := R.bl
  exact L.kd
theorem q_nn (Q : MRes → Hp → Prop) (R : RM τ n p A c B K h) : WP Gm j_ArrayList_size 0 [some (.inr (.inl (some 122)))] [] h Q = Q (.inl (some (.inl (ii n)))) h := by
  obtain ⟨c, -, L⟩ := R.nl
  exact q_zsize Q L
theorem q_ng (Q : MRes → Hp → Prop) (R : RM τ n p A c B K h) {i : Nat} (hi : i < n) : WP Gm j_ArrayList_get 0 [some (.inr (.inl (some 122))), some (.inl (ii i))] [] h Q = Q (.inl (some (.inr (.inl (some (p i)))))) h := by
  obtain ⟨c, -, L⟩ := R.nl
  obtain ⟨f, -, -, f3, f4⟩ := q_zget L hi
  rw [f4, f3]
theorem RM.md (R : RM τ n p A c B K h) : ∃ a, Md h 121 122 a n p := by
  obtain ⟨c, -, L⟩ := R.nl
  obtain ⟨a, L1, d, he⟩ := L
  refine ⟨a, R.k, R.r9, L1, R.n8, fun i hi => ⟨?_, R.nk hi, R.nz hi⟩⟩
  obtain ⟨f, f1, -, f3⟩ := he i hi
  rw [f1, f3]
theorem q_nbody (Q : MRes → Hp → Prop) (R : RM τ n p A c B K h) (x : Int32) : WP Gm j_Mdl_isNobody 0 [some (.inr (.inl (some 121))), some (.inl x)] [] h Q = Q (.inl (some (.inl (bI (!(decide (0 ≤ x) && decide (x ≤ ii n - 1))))))) h := by
  obtain ⟨a, M⟩ := R.md
  exact q_misNobody Q M.1 M.2.1 M.2.2.1 x
theorem q_linked (Q : MRes → Hp → Prop) (R : RM τ n p A c B K h) {i j : Nat} (hi : i < n) (hj : j < n) : WP Gm j_Mdl_areLinked 0 [some (.inr (.inl (some 121))), some (.inl (ii i)), some (.inl (ii j))] [] h Q = Q (.inl (some (.inl (bI (mhear h p i j && mhear h p j i))))) h := by
  obtain ⟨a, M⟩ := R.md
  exact q_mareLinked Q M hi hj
theorem q_hrs (Q : MRes → Hp → Prop) (R : RM τ n p A c B K h) {i j : Nat} (hi : i < n) (hj : j < n) : WP Gm j_Mdl_hearsIt 0 [some (.inr (.inl (some 121))), some (.inl (ii i)), some (.inl (ii j))] [] h Q = Q (.inl (some (.inl (bI (mhear h p i j))))) h := by
  obtain ⟨a, M⟩ := R.md
  exact q_mhearsIt Q M hi hj
theorem q_mf (Q : MRes → Hp → Prop) (R : RM τ n p A c B K h) {i j : Nat} (hi : i < n) (hj : j < n) : WP Gm j_Mdl_far 0 [some (.inr (.inl (some 121))), some (.inl (ii i)), some (.inl (ii j)), none, none] [] h Q = Q (.inl (some (.inl (mfar h (p i) (p j))))) h := by
  obtain ⟨a, M⟩ := R.md
  exact q_mfar Q M hi hj
theorem q_mlk (Q : MRes → Hp → Prop) (R : RM τ n p A c B K h) {i : Nat} (hi : i < n) : WP Gm j_Mdl_links 0 [some (.inr (.inl (some 121))), some (.inl (ii i)), none, none] [] h Q = Q (.inl (some (.inl (mlk h p i n)))) h := by
  obtain ⟨a, M⟩ := R.md
  exact q_mlinks Q M hi
theorem q_msn (Q : MRes → Hp → Prop) (R : RM τ n p A c B K h) : WP Gm j_Mdl_senders 0 [some (.inr (.inl (some 121))), none, none] [] h Q = Q (.inl (some (.inl (msd h p n)))) h := by
  obtain ⟨a, M⟩ := R.md
  exact q_msenders Q M
theorem q_bsy (Q : MRes → Hp → Prop) (R : RM τ n p A c B K h) {i : Nat} (hi : i < n) : WP Gm j_Mdl_isBusyFor 0 [some (.inr (.inl (some 121))), some (.inl (ii i)), none] [] h Q = Q (.inl (some (.inl (bI (mbusy h 121 p i n))))) h := by
  obtain ⟨a, M⟩ := R.md
  exact q_misBusy Q M hi
def mgB (h : Hp) (p : Nat → Nat) (i j : Nat) (s : Int32) (k : Nat) : Bool := !decide (k = j) && (tb s k && (mhear h p i k && decide (mfar h (p k) (p i) < 4 * mfar h (p j) (p i))))
def mgt (h : Hp) (p : Nat → Nat) (i j : Nat) (s : Int32) (n : Nat) : Bool := !tb s i && (mhear h p i j && !exUp (mgB h p i j s) n 0)
theorem q_mgets (Q : MRes → Hp → Prop) (R : RM τ n p A c B K h) {i j : Nat} (hi : i < n) (hj : j < n) (s : Int32) : WP Gm j_Mdl_gets 0 [some (.inr (.inl (some 121))), some (.inl (ii i)), some (.inl (ii j)), some (.inl s), none] [] h Q = Q (.inl (some (.inl (bI (mgt h p i j s n))))) h := by
  have hn := R.n8
  have step := loopE (fun k => WP Gm j_Mdl_gets 22 [some (.inr (.inl (some 121))), some (.inl (ii i)), some (.inl (ii j)), some (.inl s), some (.inl (ii k))] [] h Q) (mgB h p i j s) (Q (.inl (some (.inl (bI false)))) h) n
    (fun k hk => by
      rw [e_Mdl_gets_22]
      simp only [↓e_Mdl_gets_0, ↓e_Mdl_gets_1, ↓e_Mdl_gets_2, ↓e_Mdl_gets_5, ↓e_Mdl_gets_8, ↓e_Mdl_gets_9, ↓e_Mdl_gets_10, ↓e_Mdl_gets_11, ↓e_Mdl_gets_14, ↓e_Mdl_gets_17, ↓e_Mdl_gets_18, ↓e_Mdl_gets_19, ↓e_Mdl_gets_20, ↓e_Mdl_gets_24, ↓e_Mdl_gets_25, ↓e_Mdl_gets_28, ↓e_Mdl_gets_31, ↓e_Mdl_gets_34, ↓e_Mdl_gets_36, ↓e_Mdl_gets_37, ↓e_Mdl_gets_40, ↓e_Mdl_gets_41, ↓e_Mdl_gets_43, ↓e_Mdl_gets_46, ↓e_Mdl_gets_49, ↓e_Mdl_gets_50, ↓e_Mdl_gets_51, ↓e_Mdl_gets_53, ↓e_Mdl_gets_56, ↓e_Mdl_gets_59, ↓e_Mdl_gets_60, ↓e_Mdl_gets_61, ↓e_Mdl_gets_62, ↓e_Mdl_gets_63, ↓e_Mdl_gets_66, ↓e_Mdl_gets_67, ↓e_Mdl_gets_68, ↓e_Mdl_gets_70, ↓e_Mdl_gets_71, ↓e_Mdl_gets_74, ↓e_Mdl_gets_77, ↓e_Mdl_gets_78, ↓e_Mdl_gets_79, ↓e_Mdl_gets_82, ↓e_Mdl_gets_85, ↓e_Mdl_gets_86, not_true_eq_false, not_false_eq_true, one0, true_or, or_true, eq_self, bI_z, bI_nz, bI_o, b_ft, bI_1, bI_0, ↓kC_l, ↓kC_r, Option.toList_some, Option.toList_none, List.cons_append, List.nil_append, s1_0, s1_1i, s1_1r, s1_1w, s1_1n, s1_s, s2_0, s2_1i, s2_1r, s2_1w, s2_1n, s2_s, gI_sI, gI_sR, gI_sL, gI_sD, gR_sI, gR_sR, gR_sL, gR_sD, gL_sI, gL_sR, gL_sL, gL_sD, gD_sI, gD_sR, gD_sL, gD_sD, isK_sI, isK_sR, isK_sL, isK_sD, inL_sI, inL_sR, inL_sL, inL_sD, nx_sI, nx_sR, nx_sL, nx_sD, kd_sI, kd_sR, kd_sL, kd_sD, ln_sI, ln_sR, ln_sL, ln_sD, ↓reduceIte, c8_n, c8_1, c8_2, c8_3, c8_4, Nat.reduceAdd, R.k, R.r9, R.k122, q_nn _ R, le_f hn hk, q_mtb, q_hrs _ R hi hk, q_mf _ R hj hi, q_mf _ R hk hi, ii_succ, ii_inj (show k < 2147483648 by omega) (show j < 2147483648 by omega)]
      unfold mgB
      by_cases hkj : k = j
      · rw [if_pos hkj, decide_eq_true hkj]; rfl
      · rw [if_neg hkj, decide_eq_false hkj]
        cases tb s k
        · rfl
        · cases mhear h p i k
          · rfl
          · by_cases hf : 4 * mfar h (p j) (p i) ≤ mfar h (p k) (p i)
            · rw [decide_eq_false (Int32.not_lt.mpr hf)]; simp [hf]
            · rw [decide_eq_true (Int32.not_le.mp hf)]; simp [hf, bI]) n 0 (by omega)
  simp only [↓e_Mdl_gets_0, ↓e_Mdl_gets_1, ↓e_Mdl_gets_2, ↓e_Mdl_gets_5, ↓e_Mdl_gets_8, ↓e_Mdl_gets_9, ↓e_Mdl_gets_10, ↓e_Mdl_gets_11, ↓e_Mdl_gets_14, ↓e_Mdl_gets_17, ↓e_Mdl_gets_18, ↓e_Mdl_gets_19, ↓e_Mdl_gets_20, ↓e_Mdl_gets_24, ↓e_Mdl_gets_25, ↓e_Mdl_gets_28, ↓e_Mdl_gets_31, ↓e_Mdl_gets_34, ↓e_Mdl_gets_36, ↓e_Mdl_gets_37, ↓e_Mdl_gets_40, ↓e_Mdl_gets_41, ↓e_Mdl_gets_43, ↓e_Mdl_gets_46, ↓e_Mdl_gets_49, ↓e_Mdl_gets_50, ↓e_Mdl_gets_51, ↓e_Mdl_gets_53, ↓e_Mdl_gets_56, ↓e_Mdl_gets_59, ↓e_Mdl_gets_60, ↓e_Mdl_gets_61, ↓e_Mdl_gets_62, ↓e_Mdl_gets_63, ↓e_Mdl_gets_66, ↓e_Mdl_gets_67, ↓e_Mdl_gets_68, ↓e_Mdl_gets_70, ↓e_Mdl_gets_71, ↓e_Mdl_gets_74, ↓e_Mdl_gets_77, ↓e_Mdl_gets_78, ↓e_Mdl_gets_79, ↓e_Mdl_gets_82, ↓e_Mdl_gets_85, ↓e_Mdl_gets_86, not_true_eq_false, not_false_eq_true, one0, true_or, or_true, eq_self, bI_z, bI_nz, bI_o, b_ft, bI_1, bI_0, ↓kC_l, ↓kC_r, Option.toList_some, Option.toList_none, List.cons_append, List.nil_append, s1_0, s1_1i, s1_1r, s1_1w, s1_1n, s1_s, s2_0, s2_1i, s2_1r, s2_1w, s2_1n, s2_s, gI_sI, gI_sR, gI_sL, gI_sD, gR_sI, gR_sR, gR_sL, gR_sD, gL_sI, gL_sR, gL_sL, gL_sD, gD_sI, gD_sR, gD_sL, gD_sD, isK_sI, isK_sR, isK_sL, isK_sD, inL_sI, inL_sR, inL_sL, inL_sD, nx_sI, nx_sR, nx_sL, nx_sD, kd_sI, kd_sR, kd_sL, kd_sD, ln_sI, ln_sR, ln_sL, ln_sD, ↓reduceIte, c8_n, c8_1, c8_2, c8_3, c8_4, Nat.reduceAdd, R.k, R.r9, R.k122, q_mtb, q_hrs _ R hi hj]
  unfold mgt
  cases tb s i
  · cases mhear h p i j
    · rfl
    · refine Eq.trans ?_ (step.trans ?_)
      · rfl
      · rw [e_Mdl_gets_22]
        simp only [↓e_Mdl_gets_0, ↓e_Mdl_gets_1, ↓e_Mdl_gets_2, ↓e_Mdl_gets_5, ↓e_Mdl_gets_8, ↓e_Mdl_gets_9, ↓e_Mdl_gets_10, ↓e_Mdl_gets_11, ↓e_Mdl_gets_14, ↓e_Mdl_gets_17, ↓e_Mdl_gets_18, ↓e_Mdl_gets_19, ↓e_Mdl_gets_20, ↓e_Mdl_gets_24, ↓e_Mdl_gets_25, ↓e_Mdl_gets_28, ↓e_Mdl_gets_31, ↓e_Mdl_gets_34, ↓e_Mdl_gets_36, ↓e_Mdl_gets_37, ↓e_Mdl_gets_40, ↓e_Mdl_gets_41, ↓e_Mdl_gets_43, ↓e_Mdl_gets_46, ↓e_Mdl_gets_49, ↓e_Mdl_gets_50, ↓e_Mdl_gets_51, ↓e_Mdl_gets_53, ↓e_Mdl_gets_56, ↓e_Mdl_gets_59, ↓e_Mdl_gets_60, ↓e_Mdl_gets_61, ↓e_Mdl_gets_62, ↓e_Mdl_gets_63, ↓e_Mdl_gets_66, ↓e_Mdl_gets_67, ↓e_Mdl_gets_68, ↓e_Mdl_gets_70, ↓e_Mdl_gets_71, ↓e_Mdl_gets_74, ↓e_Mdl_gets_77, ↓e_Mdl_gets_78, ↓e_Mdl_gets_79, ↓e_Mdl_gets_82, ↓e_Mdl_gets_85, ↓e_Mdl_gets_86, not_true_eq_false, not_false_eq_true, one0, true_or, or_true, eq_self, bI_z, bI_nz, bI_o, b_ft, bI_1, bI_0, ↓kC_l, ↓kC_r, Option.toList_some, Option.toList_none, List.cons_append, List.nil_append, s1_0, s1_1i, s1_1r, s1_1w, s1_1n, s1_s, s2_0, s2_1i, s2_1r, s2_1w, s2_1n, s2_s, gI_sI, gI_sR, gI_sL, gI_sD, gR_sI, gR_sR, gR_sL, gR_sD, gL_sI, gL_sR, gL_sL, gL_sD, gD_sI, gD_sR, gD_sL, gD_sD, isK_sI, isK_sR, isK_sL, isK_sD, inL_sI, inL_sR, inL_sL, inL_sD, nx_sI, nx_sR, nx_sL, nx_sD, kd_sI, kd_sR, kd_sL, kd_sD, ln_sI, ln_sR, ln_sL, ln_sD, ↓reduceIte, c8_n, c8_1, c8_2, c8_3, c8_4, Nat.reduceAdd, R.k, R.r9, R.k122, q_nn _ R, le_t hn]
        cases exUp (mgB h p i j s) n 0 <;> rfl
  · rfl
def msS (h : Hp) (p : Nat → Nat) (i k : Nat) (a : Int32 × Int32) : Int32 × Int32 := if k = i then a else (a.1 + gI h (p k) 13, a.2 + gI h (p k) 14)
def msu (h : Hp) (p : Nat → Nat) (i n : Nat) : Bool := !decide (gI h (p i) 14 < 3) && !decide (0 ≤ lg_cmp (4 * (gI h (p i) 13).toInt64 * ((upto (msS h p i) n 0 (0, 0)).2).toInt64) (((upto (msS h p i) n 0 (0, 0)).1).toInt64 * (gI h (p i) 14).toInt64))
theorem q_msuspect (Q : MRes → Hp → Prop) (R : RM τ n p A c B K h) {i : Nat} (hi : i < n) : WP Gm j_Mdl_isSuspect 0 [some (.inr (.inl (some 121))), some (.inl (ii i)), none, none, none] [] h Q = Q (.inl (some (.inl (bI (msu h p i n))))) h := by
  have hn := R.n8
  have step := loop0 (fun k (a : Int32 × Int32) => WP Gm j_Mdl_isSuspect 7 [some (.inr (.inl (some 121))), some (.inl (ii i)), some (.inl a.1), some (.inl a.2), some (.inl (ii k))] [] h Q) (msS h p i) n
    (fun k a hk => by
      rw [e_Mdl_isSuspect_7]
      unfold msS
      simp only [↓e_Mdl_isSuspect_0, ↓e_Mdl_isSuspect_1, ↓e_Mdl_isSuspect_2, ↓e_Mdl_isSuspect_3, ↓e_Mdl_isSuspect_4, ↓e_Mdl_isSuspect_5, ↓e_Mdl_isSuspect_9, ↓e_Mdl_isSuspect_10, ↓e_Mdl_isSuspect_13, ↓e_Mdl_isSuspect_16, ↓e_Mdl_isSuspect_19, ↓e_Mdl_isSuspect_21, ↓e_Mdl_isSuspect_22, ↓e_Mdl_isSuspect_25, ↓e_Mdl_isSuspect_28, ↓e_Mdl_isSuspect_29, ↓e_Mdl_isSuspect_30, ↓e_Mdl_isSuspect_33, ↓e_Mdl_isSuspect_35, ↓e_Mdl_isSuspect_38, ↓e_Mdl_isSuspect_41, ↓e_Mdl_isSuspect_44, ↓e_Mdl_isSuspect_45, ↓e_Mdl_isSuspect_46, ↓e_Mdl_isSuspect_47, ↓e_Mdl_isSuspect_48, ↓e_Mdl_isSuspect_51, ↓e_Mdl_isSuspect_53, ↓e_Mdl_isSuspect_56, ↓e_Mdl_isSuspect_59, ↓e_Mdl_isSuspect_62, ↓e_Mdl_isSuspect_63, ↓e_Mdl_isSuspect_64, ↓e_Mdl_isSuspect_67, ↓e_Mdl_isSuspect_70, ↓e_Mdl_isSuspect_71, ↓e_Mdl_isSuspect_74, ↓e_Mdl_isSuspect_75, ↓e_Mdl_isSuspect_78, ↓e_Mdl_isSuspect_81, ↓e_Mdl_isSuspect_83, ↓e_Mdl_isSuspect_85, ↓e_Mdl_isSuspect_88, ↓e_Mdl_isSuspect_89, ↓e_Mdl_isSuspect_92, ↓e_Mdl_isSuspect_95, ↓e_Mdl_isSuspect_97, ↓e_Mdl_isSuspect_100, ↓e_Mdl_isSuspect_101, ↓e_Mdl_isSuspect_102, ↓e_Mdl_isSuspect_103, ↓e_Mdl_isSuspect_104, ↓e_Mdl_isSuspect_105, ↓e_Mdl_isSuspect_106, ↓e_Mdl_isSuspect_107, ↓e_Mdl_isSuspect_109, ↓e_Mdl_isSuspect_112, ↓e_Mdl_isSuspect_113, ↓e_Mdl_isSuspect_114, ↓e_Mdl_isSuspect_115, ↓e_Mdl_isSuspect_118, ↓e_Mdl_isSuspect_119, ↓e_Mdl_isSuspect_122, ↓e_Mdl_isSuspect_123, not_true_eq_false, not_false_eq_true, one0, true_or, or_true, eq_self, bI_z, bI_nz, bI_o, b_ft, bI_1, bI_0, ↓kC_l, ↓kC_r, Option.toList_some, Option.toList_none, List.cons_append, List.nil_append, s1_0, s1_1i, s1_1r, s1_1w, s1_1n, s1_s, s2_0, s2_1i, s2_1r, s2_1w, s2_1n, s2_s, gI_sI, gI_sR, gI_sL, gI_sD, gR_sI, gR_sR, gR_sL, gR_sD, gL_sI, gL_sR, gL_sL, gL_sD, gD_sI, gD_sR, gD_sL, gD_sD, isK_sI, isK_sR, isK_sL, isK_sD, inL_sI, inL_sR, inL_sL, inL_sD, nx_sI, nx_sR, nx_sL, nx_sD, kd_sI, kd_sR, kd_sL, kd_sD, ln_sI, ln_sR, ln_sL, ln_sD, ↓reduceIte, c8_n, c8_1, c8_2, c8_3, c8_4, Nat.reduceAdd, R.k, R.r9, R.k122, q_nn _ R, q_ng _ R hk, R.nk hk, R.nz hk, le_f hn hk, ii_succ, ii_inj (show k < 2147483648 by omega) (show i < 2147483648 by omega)]
      by_cases hki : k = i
      · rw [if_neg (fun w => w hki), if_pos hki]
      · rw [if_pos hki, if_neg hki]) n 0 (0, 0) (by omega)
  simp only [↓e_Mdl_isSuspect_0, ↓e_Mdl_isSuspect_1, ↓e_Mdl_isSuspect_2, ↓e_Mdl_isSuspect_3, ↓e_Mdl_isSuspect_4, ↓e_Mdl_isSuspect_5, ↓e_Mdl_isSuspect_9, ↓e_Mdl_isSuspect_10, ↓e_Mdl_isSuspect_13, ↓e_Mdl_isSuspect_16, ↓e_Mdl_isSuspect_19, ↓e_Mdl_isSuspect_21, ↓e_Mdl_isSuspect_22, ↓e_Mdl_isSuspect_25, ↓e_Mdl_isSuspect_28, ↓e_Mdl_isSuspect_29, ↓e_Mdl_isSuspect_30, ↓e_Mdl_isSuspect_33, ↓e_Mdl_isSuspect_35, ↓e_Mdl_isSuspect_38, ↓e_Mdl_isSuspect_41, ↓e_Mdl_isSuspect_44, ↓e_Mdl_isSuspect_45, ↓e_Mdl_isSuspect_46, ↓e_Mdl_isSuspect_47, ↓e_Mdl_isSuspect_48, ↓e_Mdl_isSuspect_51, ↓e_Mdl_isSuspect_53, ↓e_Mdl_isSuspect_56, ↓e_Mdl_isSuspect_59, ↓e_Mdl_isSuspect_62, ↓e_Mdl_isSuspect_63, ↓e_Mdl_isSuspect_64, ↓e_Mdl_isSuspect_67, ↓e_Mdl_isSuspect_70, ↓e_Mdl_isSuspect_71, ↓e_Mdl_isSuspect_74, ↓e_Mdl_isSuspect_75, ↓e_Mdl_isSuspect_78, ↓e_Mdl_isSuspect_81, ↓e_Mdl_isSuspect_83, ↓e_Mdl_isSuspect_85, ↓e_Mdl_isSuspect_88, ↓e_Mdl_isSuspect_89, ↓e_Mdl_isSuspect_92, ↓e_Mdl_isSuspect_95, ↓e_Mdl_isSuspect_97, ↓e_Mdl_isSuspect_100, ↓e_Mdl_isSuspect_101, ↓e_Mdl_isSuspect_102, ↓e_Mdl_isSuspect_103, ↓e_Mdl_isSuspect_104, ↓e_Mdl_isSuspect_105, ↓e_Mdl_isSuspect_106, ↓e_Mdl_isSuspect_107, ↓e_Mdl_isSuspect_109, ↓e_Mdl_isSuspect_112, ↓e_Mdl_isSuspect_113, ↓e_Mdl_isSuspect_114, ↓e_Mdl_isSuspect_115, ↓e_Mdl_isSuspect_118, ↓e_Mdl_isSuspect_119, ↓e_Mdl_isSuspect_122, ↓e_Mdl_isSuspect_123, not_true_eq_false, not_false_eq_true, one0, true_or, or_true, eq_self, bI_z, bI_nz, bI_o, b_ft, bI_1, bI_0, ↓kC_l, ↓kC_r, Option.toList_some, Option.toList_none, List.cons_append, List.nil_append, s1_0, s1_1i, s1_1r, s1_1w, s1_1n, s1_s, s2_0, s2_1i, s2_1r, s2_1w, s2_1n, s2_s, gI_sI, gI_sR, gI_sL, gI_sD, gR_sI, gR_sR, gR_sL, gR_sD, gL_sI, gL_sR, gL_sL, gL_sD, gD_sI, gD_sR, gD_sL, gD_sD, isK_sI, isK_sR, isK_sL, isK_sD, inL_sI, inL_sR, inL_sL, inL_sD, nx_sI, nx_sR, nx_sL, nx_sD, kd_sI, kd_sR, kd_sL, kd_sD, ln_sI, ln_sR, ln_sL, ln_sD, ↓reduceIte, c8_n, c8_1, c8_2, c8_3, c8_4, Nat.reduceAdd]
  refine step.trans ?_
  rw [e_Mdl_isSuspect_7]
  simp only [↓e_Mdl_isSuspect_0, ↓e_Mdl_isSuspect_1, ↓e_Mdl_isSuspect_2, ↓e_Mdl_isSuspect_3, ↓e_Mdl_isSuspect_4, ↓e_Mdl_isSuspect_5, ↓e_Mdl_isSuspect_9, ↓e_Mdl_isSuspect_10, ↓e_Mdl_isSuspect_13, ↓e_Mdl_isSuspect_16, ↓e_Mdl_isSuspect_19, ↓e_Mdl_isSuspect_21, ↓e_Mdl_isSuspect_22, ↓e_Mdl_isSuspect_25, ↓e_Mdl_isSuspect_28, ↓e_Mdl_isSuspect_29, ↓e_Mdl_isSuspect_30, ↓e_Mdl_isSuspect_33, ↓e_Mdl_isSuspect_35, ↓e_Mdl_isSuspect_38, ↓e_Mdl_isSuspect_41, ↓e_Mdl_isSuspect_44, ↓e_Mdl_isSuspect_45, ↓e_Mdl_isSuspect_46, ↓e_Mdl_isSuspect_47, ↓e_Mdl_isSuspect_48, ↓e_Mdl_isSuspect_51, ↓e_Mdl_isSuspect_53, ↓e_Mdl_isSuspect_56, ↓e_Mdl_isSuspect_59, ↓e_Mdl_isSuspect_62, ↓e_Mdl_isSuspect_63, ↓e_Mdl_isSuspect_64, ↓e_Mdl_isSuspect_67, ↓e_Mdl_isSuspect_70, ↓e_Mdl_isSuspect_71, ↓e_Mdl_isSuspect_74, ↓e_Mdl_isSuspect_75, ↓e_Mdl_isSuspect_78, ↓e_Mdl_isSuspect_81, ↓e_Mdl_isSuspect_83, ↓e_Mdl_isSuspect_85, ↓e_Mdl_isSuspect_88, ↓e_Mdl_isSuspect_89, ↓e_Mdl_isSuspect_92, ↓e_Mdl_isSuspect_95, ↓e_Mdl_isSuspect_97, ↓e_Mdl_isSuspect_100, ↓e_Mdl_isSuspect_101, ↓e_Mdl_isSuspect_102, ↓e_Mdl_isSuspect_103, ↓e_Mdl_isSuspect_104, ↓e_Mdl_isSuspect_105, ↓e_Mdl_isSuspect_106, ↓e_Mdl_isSuspect_107, ↓e_Mdl_isSuspect_109, ↓e_Mdl_isSuspect_112, ↓e_Mdl_isSuspect_113, ↓e_Mdl_isSuspect_114, ↓e_Mdl_isSuspect_115, ↓e_Mdl_isSuspect_118, ↓e_Mdl_isSuspect_119, ↓e_Mdl_isSuspect_122, ↓e_Mdl_isSuspect_123, not_true_eq_false, not_false_eq_true, one0, true_or, or_true, eq_self, bI_z, bI_nz, bI_o, b_ft, bI_1, bI_0, ↓kC_l, ↓kC_r, Option.toList_some, Option.toList_none, List.cons_append, List.nil_append, s1_0, s1_1i, s1_1r, s1_1w, s1_1n, s1_s, s2_0, s2_1i, s2_1r, s2_1w, s2_1n, s2_s, gI_sI, gI_sR, gI_sL, gI_sD, gR_sI, gR_sR, gR_sL, gR_sD, gL_sI, gL_sR, gL_sL, gL_sD, gD_sI, gD_sR, gD_sL, gD_sD, isK_sI, isK_sR, isK_sL, isK_sD, inL_sI, inL_sR, inL_sL, inL_sD, nx_sI, nx_sR, nx_sL, nx_sD, kd_sI, kd_sR, kd_sL, kd_sD, ln_sI, ln_sR, ln_sL, ln_sD, ↓reduceIte, c8_n, c8_1, c8_2, c8_3, c8_4, Nat.reduceAdd, R.k, R.r9, R.k122, q_nn _ R, le_t hn, q_ng _ R hi, R.nk hi, R.nz hi]
  unfold msu
  generalize upto (msS h p i) n 0 (0, 0) = r
  by_cases h1 : gI h (p i) 14 < 3
  · rw [decide_eq_true h1]; simp [h1, bI]
  · rw [decide_eq_false h1]
    by_cases h2 : 0 ≤ lg_cmp (4 * (gI h (p i) 13).toInt64 * r.2.toInt64) (r.1.toInt64 * (gI h (p i) 14).toInt64)
    · rw [decide_eq_true h2]; simp [h1, h2, bI]
    · rw [decide_eq_false h2]; simp [h1, h2, bI]
theorem cntN_lt {f g : Nat → Bool} : ∀ {m : Nat}, (∀ i, i < m → g i = true → f i = true) → (∃ j, j < m ∧ f j = true ∧ g j = false) → cnt g m < cnt f m
  | 0, _, ⟨j, hj, _⟩ => absurd hj (by omega)
  | m + 1, hs, ⟨j, hj, hf, hg⟩ => by
    have mono : ∀ m, (∀ i, i < m → g i = true → f i = true) → cnt g m ≤ cnt f m := by
      intro m
      induction m with
      | zero => intro _; exact Nat.le_refl _
      | succ m ih =>
        intro hs
        have h1 := ih fun i hi => hs i (by omega)
        show cnt g m + (if g m = true then 1 else 0) ≤ cnt f m + (if f m = true then 1 else 0)
        by_cases e : g m = true
        · rw [if_pos e, if_pos (hs m (by omega) e)]; omega
        · rw [if_neg e]; omega
    show cnt g m + (if g m = true then 1 else 0) < cnt f m + (if f m = true then 1 else 0)
    by_cases e : j = m
    · subst e
      have h1 := mono j fun i hi => hs i (by omega)
      rw [hf, hg]
      simp
      omega
    · have h1 := cntN_lt (m := m) (fun i hi => hs i (by omega)) ⟨j, by omega, hf, hg⟩
      by_cases e2 : g m = true
      · rw [if_pos e2, if_pos (hs m (by omega) e2)]; omega
      · rw [if_neg e2]; omega
theorem q_mway (R : RM τ n p A c B K h) {i j : Nat} (hi : i < n) (hj : j < n) : ∃ v : Int32, ∀ Q, WP Gm j_Mdl_way 0 [some (.inr (.inl (some 121))), some (.inl (ii i)), some (.inl (ii j)), none, none, none] [] h Q = Q (.inl (some (.inl v))) h := by
  have hn := R.n8
  have key : ∀ (m : Nat) (s y : Int32) (t : Nat), t < n → cnt (fun k => !tb s k) n ≤ m → ∃ v : Int32, ∀ Q, WP Gm j_Mdl_way 10 [some (.inr (.inl (some 121))), some (.inl (ii i)), some (.inl (ii j)), some (.inl s), some (.inl y), some (.inl (ii t))] [] h Q = Q (.inl (some (.inl v))) h := by
    intro m
    induction m with
    | zero =>
      intro s y t ht hc
      by_cases htj : t = j
      · refine ⟨y, fun Q => ?_⟩
        rw [e_Mdl_way_10]
        simp only [↓e_Mdl_way_0, ↓e_Mdl_way_1, ↓e_Mdl_way_2, ↓e_Mdl_way_3, ↓e_Mdl_way_4, ↓e_Mdl_way_5, ↓e_Mdl_way_7, ↓e_Mdl_way_8, ↓e_Mdl_way_12, ↓e_Mdl_way_13, ↓e_Mdl_way_16, ↓e_Mdl_way_17, ↓e_Mdl_way_20, ↓e_Mdl_way_22, ↓e_Mdl_way_25, ↓e_Mdl_way_28, ↓e_Mdl_way_31, ↓e_Mdl_way_32, ↓e_Mdl_way_33, ↓e_Mdl_way_35, ↓e_Mdl_way_37, ↓e_Mdl_way_38, ↓e_Mdl_way_41, ↓e_Mdl_way_42, ↓e_Mdl_way_43, ↓e_Mdl_way_44, ↓e_Mdl_way_46, ↓e_Mdl_way_49, ↓e_Mdl_way_52, ↓e_Mdl_way_54, ↓e_Mdl_way_55, ↓e_Mdl_way_56, ↓e_Mdl_way_57, ↓e_Mdl_way_59, ↓e_Mdl_way_60, ↓e_Mdl_way_61, ↓e_Mdl_way_62, ↓e_Mdl_way_65, ↓e_Mdl_way_68, ↓e_Mdl_way_70, not_true_eq_false, not_false_eq_true, one0, true_or, or_true, eq_self, bI_z, bI_nz, bI_o, b_ft, bI_1, bI_0, ↓kC_l, ↓kC_r, Option.toList_some, Option.toList_none, List.cons_append, List.nil_append, s1_0, s1_1i, s1_1r, s1_1w, s1_1n, s1_s, s2_0, s2_1i, s2_1r, s2_1w, s2_1n, s2_s, gI_sI, gI_sR, gI_sL, gI_sD, gR_sI, gR_sR, gR_sL, gR_sD, gL_sI, gL_sR, gL_sL, gL_sD, gD_sI, gD_sR, gD_sL, gD_sD, isK_sI, isK_sR, isK_sL, isK_sD, inL_sI, inL_sR, inL_sL, inL_sD, nx_sI, nx_sR, nx_sL, nx_sD, kd_sI, kd_sR, kd_sL, kd_sD, ln_sI, ln_sR, ln_sL, ln_sD, ↓reduceIte, c8_n, c8_1, c8_2, c8_3, c8_4, Nat.reduceAdd, htj]
      · have hne : (ii t = ii j) = False := by rw [ii_inj (by omega) (by omega)]; exact eq_false htj
        obtain ⟨d1, d2, -⟩ := R.nd ht
        have g1 := d1.2.2.1.2.2
        have g2 := d1.2.2.2.2.1
        have g3 := d1.2.2.2.2.2
        have g4 : inL h (p t + 3) (ii j) = true := inL_n (by omega) (by rw [g3]; omega)
        rcases d2 j (by omega) with e | ⟨r, r1, r2⟩
        · refine ⟨-1, fun Q => ?_⟩
          rw [e_Mdl_way_10]
          simp only [↓e_Mdl_way_0, ↓e_Mdl_way_1, ↓e_Mdl_way_2, ↓e_Mdl_way_3, ↓e_Mdl_way_4, ↓e_Mdl_way_5, ↓e_Mdl_way_7, ↓e_Mdl_way_8, ↓e_Mdl_way_12, ↓e_Mdl_way_13, ↓e_Mdl_way_16, ↓e_Mdl_way_17, ↓e_Mdl_way_20, ↓e_Mdl_way_22, ↓e_Mdl_way_25, ↓e_Mdl_way_28, ↓e_Mdl_way_31, ↓e_Mdl_way_32, ↓e_Mdl_way_33, ↓e_Mdl_way_35, ↓e_Mdl_way_37, ↓e_Mdl_way_38, ↓e_Mdl_way_41, ↓e_Mdl_way_42, ↓e_Mdl_way_43, ↓e_Mdl_way_44, ↓e_Mdl_way_46, ↓e_Mdl_way_49, ↓e_Mdl_way_52, ↓e_Mdl_way_54, ↓e_Mdl_way_55, ↓e_Mdl_way_56, ↓e_Mdl_way_57, ↓e_Mdl_way_59, ↓e_Mdl_way_60, ↓e_Mdl_way_61, ↓e_Mdl_way_62, ↓e_Mdl_way_65, ↓e_Mdl_way_68, ↓e_Mdl_way_70, not_true_eq_false, not_false_eq_true, one0, true_or, or_true, eq_self, bI_z, bI_nz, bI_o, b_ft, bI_1, bI_0, ↓kC_l, ↓kC_r, Option.toList_some, Option.toList_none, List.cons_append, List.nil_append, s1_0, s1_1i, s1_1r, s1_1w, s1_1n, s1_s, s2_0, s2_1i, s2_1r, s2_1w, s2_1n, s2_s, gI_sI, gI_sR, gI_sL, gI_sD, gR_sI, gR_sR, gR_sL, gR_sD, gL_sI, gL_sR, gL_sL, gL_sD, gD_sI, gD_sR, gD_sL, gD_sD, isK_sI, isK_sR, isK_sL, isK_sD, inL_sI, inL_sR, inL_sL, inL_sD, nx_sI, nx_sR, nx_sL, nx_sD, kd_sI, kd_sR, kd_sL, kd_sD, ln_sI, ln_sR, ln_sL, ln_sD, ↓reduceIte, c8_n, c8_1, c8_2, c8_3, c8_4, Nat.reduceAdd, hne, R.k, R.r9, R.k122, q_ng _ R ht, R.nk ht, R.nz ht, g1, g2, g4, ii_nat (show j < 2147483648 by omega), e]
        · have hr1 : (ii r = -1) = False := eq_false (by
            intro w
            have : ∀ r, r < 8 → ¬ ii r = -1 := by decide
            exact this r (by omega) w)
          have hb : tb s r = true := by
            cases hb : tb s r with
            | true => rfl
            | false =>
              have := cntN_lt (f := fun k => !tb s k) (g := fun _ => false) (m := n) (fun _ _ w => by cases w) ⟨r, r1, by simp [hb], rfl⟩
              omega
          refine ⟨-2, fun Q => ?_⟩
          rw [e_Mdl_way_10]
          simp only [↓e_Mdl_way_0, ↓e_Mdl_way_1, ↓e_Mdl_way_2, ↓e_Mdl_way_3, ↓e_Mdl_way_4, ↓e_Mdl_way_5, ↓e_Mdl_way_7, ↓e_Mdl_way_8, ↓e_Mdl_way_12, ↓e_Mdl_way_13, ↓e_Mdl_way_16, ↓e_Mdl_way_17, ↓e_Mdl_way_20, ↓e_Mdl_way_22, ↓e_Mdl_way_25, ↓e_Mdl_way_28, ↓e_Mdl_way_31, ↓e_Mdl_way_32, ↓e_Mdl_way_33, ↓e_Mdl_way_35, ↓e_Mdl_way_37, ↓e_Mdl_way_38, ↓e_Mdl_way_41, ↓e_Mdl_way_42, ↓e_Mdl_way_43, ↓e_Mdl_way_44, ↓e_Mdl_way_46, ↓e_Mdl_way_49, ↓e_Mdl_way_52, ↓e_Mdl_way_54, ↓e_Mdl_way_55, ↓e_Mdl_way_56, ↓e_Mdl_way_57, ↓e_Mdl_way_59, ↓e_Mdl_way_60, ↓e_Mdl_way_61, ↓e_Mdl_way_62, ↓e_Mdl_way_65, ↓e_Mdl_way_68, ↓e_Mdl_way_70, not_true_eq_false, not_false_eq_true, one0, true_or, or_true, eq_self, bI_z, bI_nz, bI_o, b_ft, bI_1, bI_0, ↓kC_l, ↓kC_r, Option.toList_some, Option.toList_none, List.cons_append, List.nil_append, s1_0, s1_1i, s1_1r, s1_1w, s1_1n, s1_s, s2_0, s2_1i, s2_1r, s2_1w, s2_1n, s2_s, gI_sI, gI_sR, gI_sL, gI_sD, gR_sI, gR_sR, gR_sL, gR_sD, gL_sI, gL_sR, gL_sL, gL_sD, gD_sI, gD_sR, gD_sL, gD_sD, isK_sI, isK_sR, isK_sL, isK_sD, inL_sI, inL_sR, inL_sL, inL_sD, nx_sI, nx_sR, nx_sL, nx_sD, kd_sI, kd_sR, kd_sL, kd_sD, ln_sI, ln_sR, ln_sL, ln_sD, ↓reduceIte, c8_n, c8_1, c8_2, c8_3, c8_4, Nat.reduceAdd, hne, R.k, R.r9, R.k122, q_ng _ R ht, R.nk ht, R.nz ht, g1, g2, g4, ii_nat (show j < 2147483648 by omega), r2, hr1, q_mtb, hb]
    | succ m ih =>
      intro s y t ht hc
      by_cases htj : t = j
      · refine ⟨y, fun Q => ?_⟩
        rw [e_Mdl_way_10]
        simp only [↓e_Mdl_way_0, ↓e_Mdl_way_1, ↓e_Mdl_way_2, ↓e_Mdl_way_3, ↓e_Mdl_way_4, ↓e_Mdl_way_5, ↓e_Mdl_way_7, ↓e_Mdl_way_8, ↓e_Mdl_way_12, ↓e_Mdl_way_13, ↓e_Mdl_way_16, ↓e_Mdl_way_17, ↓e_Mdl_way_20, ↓e_Mdl_way_22, ↓e_Mdl_way_25, ↓e_Mdl_way_28, ↓e_Mdl_way_31, ↓e_Mdl_way_32, ↓e_Mdl_way_33, ↓e_Mdl_way_35, ↓e_Mdl_way_37, ↓e_Mdl_way_38, ↓e_Mdl_way_41, ↓e_Mdl_way_42, ↓e_Mdl_way_43, ↓e_Mdl_way_44, ↓e_Mdl_way_46, ↓e_Mdl_way_49, ↓e_Mdl_way_52, ↓e_Mdl_way_54, ↓e_Mdl_way_55, ↓e_Mdl_way_56, ↓e_Mdl_way_57, ↓e_Mdl_way_59, ↓e_Mdl_way_60, ↓e_Mdl_way_61, ↓e_Mdl_way_62, ↓e_Mdl_way_65, ↓e_Mdl_way_68, ↓e_Mdl_way_70, not_true_eq_false, not_false_eq_true, one0, true_or, or_true, eq_self, bI_z, bI_nz, bI_o, b_ft, bI_1, bI_0, ↓kC_l, ↓kC_r, Option.toList_some, Option.toList_none, List.cons_append, List.nil_append, s1_0, s1_1i, s1_1r, s1_1w, s1_1n, s1_s, s2_0, s2_1i, s2_1r, s2_1w, s2_1n, s2_s, gI_sI, gI_sR, gI_sL, gI_sD, gR_sI, gR_sR, gR_sL, gR_sD, gL_sI, gL_sR, gL_sL, gL_sD, gD_sI, gD_sR, gD_sL, gD_sD, isK_sI, isK_sR, isK_sL, isK_sD, inL_sI, inL_sR, inL_sL, inL_sD, nx_sI, nx_sR, nx_sL, nx_sD, kd_sI, kd_sR, kd_sL, kd_sD, ln_sI, ln_sR, ln_sL, ln_sD, ↓reduceIte, c8_n, c8_1, c8_2, c8_3, c8_4, Nat.reduceAdd, htj]
      · have hne : (ii t = ii j) = False := by rw [ii_inj (by omega) (by omega)]; exact eq_false htj
        obtain ⟨d1, d2, -⟩ := R.nd ht
        have g1 := d1.2.2.1.2.2
        have g2 := d1.2.2.2.2.1
        have g3 := d1.2.2.2.2.2
        have g4 : inL h (p t + 3) (ii j) = true := inL_n (by omega) (by rw [g3]; omega)
        rcases d2 j (by omega) with e | ⟨r, r1, r2⟩
        · refine ⟨-1, fun Q => ?_⟩
          rw [e_Mdl_way_10]
          simp only [↓e_Mdl_way_0, ↓e_Mdl_way_1, ↓e_Mdl_way_2, ↓e_Mdl_way_3, ↓e_Mdl_way_4, ↓e_Mdl_way_5, ↓e_Mdl_way_7, ↓e_Mdl_way_8, ↓e_Mdl_way_12, ↓e_Mdl_way_13, ↓e_Mdl_way_16, ↓e_Mdl_way_17, ↓e_Mdl_way_20, ↓e_Mdl_way_22, ↓e_Mdl_way_25, ↓e_Mdl_way_28, ↓e_Mdl_way_31, ↓e_Mdl_way_32, ↓e_Mdl_way_33, ↓e_Mdl_way_35, ↓e_Mdl_way_37, ↓e_Mdl_way_38, ↓e_Mdl_way_41, ↓e_Mdl_way_42, ↓e_Mdl_way_43, ↓e_Mdl_way_44, ↓e_Mdl_way_46, ↓e_Mdl_way_49, ↓e_Mdl_way_52, ↓e_Mdl_way_54, ↓e_Mdl_way_55, ↓e_Mdl_way_56, ↓e_Mdl_way_57, ↓e_Mdl_way_59, ↓e_Mdl_way_60, ↓e_Mdl_way_61, ↓e_Mdl_way_62, ↓e_Mdl_way_65, ↓e_Mdl_way_68, ↓e_Mdl_way_70, not_true_eq_false, not_false_eq_true, one0, true_or, or_true, eq_self, bI_z, bI_nz, bI_o, b_ft, bI_1, bI_0, ↓kC_l, ↓kC_r, Option.toList_some, Option.toList_none, List.cons_append, List.nil_append, s1_0, s1_1i, s1_1r, s1_1w, s1_1n, s1_s, s2_0, s2_1i, s2_1r, s2_1w, s2_1n, s2_s, gI_sI, gI_sR, gI_sL, gI_sD, gR_sI, gR_sR, gR_sL, gR_sD, gL_sI, gL_sR, gL_sL, gL_sD, gD_sI, gD_sR, gD_sL, gD_sD, isK_sI, isK_sR, isK_sL, isK_sD, inL_sI, inL_sR, inL_sL, inL_sD, nx_sI, nx_sR, nx_sL, nx_sD, kd_sI, kd_sR, kd_sL, kd_sD, ln_sI, ln_sR, ln_sL, ln_sD, ↓reduceIte, c8_n, c8_1, c8_2, c8_3, c8_4, Nat.reduceAdd, hne, R.k, R.r9, R.k122, q_ng _ R ht, R.nk ht, R.nz ht, g1, g2, g4, ii_nat (show j < 2147483648 by omega), e]
        · have hr1 : (ii r = -1) = False := eq_false (by
            intro w
            have : ∀ r, r < 8 → ¬ ii r = -1 := by decide
            exact this r (by omega) w)
          cases hb : tb s r with
          | true =>
            refine ⟨-2, fun Q => ?_⟩
            rw [e_Mdl_way_10]
            simp only [↓e_Mdl_way_0, ↓e_Mdl_way_1, ↓e_Mdl_way_2, ↓e_Mdl_way_3, ↓e_Mdl_way_4, ↓e_Mdl_way_5, ↓e_Mdl_way_7, ↓e_Mdl_way_8, ↓e_Mdl_way_12, ↓e_Mdl_way_13, ↓e_Mdl_way_16, ↓e_Mdl_way_17, ↓e_Mdl_way_20, ↓e_Mdl_way_22, ↓e_Mdl_way_25, ↓e_Mdl_way_28, ↓e_Mdl_way_31, ↓e_Mdl_way_32, ↓e_Mdl_way_33, ↓e_Mdl_way_35, ↓e_Mdl_way_37, ↓e_Mdl_way_38, ↓e_Mdl_way_41, ↓e_Mdl_way_42, ↓e_Mdl_way_43, ↓e_Mdl_way_44, ↓e_Mdl_way_46, ↓e_Mdl_way_49, ↓e_Mdl_way_52, ↓e_Mdl_way_54, ↓e_Mdl_way_55, ↓e_Mdl_way_56, ↓e_Mdl_way_57, ↓e_Mdl_way_59, ↓e_Mdl_way_60, ↓e_Mdl_way_61, ↓e_Mdl_way_62, ↓e_Mdl_way_65, ↓e_Mdl_way_68, ↓e_Mdl_way_70, not_true_eq_false, not_false_eq_true, one0, true_or, or_true, eq_self, bI_z, bI_nz, bI_o, b_ft, bI_1, bI_0, ↓kC_l, ↓kC_r, Option.toList_some, Option.toList_none, List.cons_append, List.nil_append, s1_0, s1_1i, s1_1r, s1_1w, s1_1n, s1_s, s2_0, s2_1i, s2_1r, s2_1w, s2_1n, s2_s, gI_sI, gI_sR, gI_sL, gI_sD, gR_sI, gR_sR, gR_sL, gR_sD, gL_sI, gL_sR, gL_sL, gL_sD, gD_sI, gD_sR, gD_sL, gD_sD, isK_sI, isK_sR, isK_sL, isK_sD, inL_sI, inL_sR, inL_sL, inL_sD, nx_sI, nx_sR, nx_sL, nx_sD, kd_sI, kd_sR, kd_sL, kd_sD, ln_sI, ln_sR, ln_sL, ln_sD, ↓reduceIte, c8_n, c8_1, c8_2, c8_3, c8_4, Nat.reduceAdd, hne, R.k, R.r9, R.k122, q_ng _ R ht, R.nk ht, R.nz ht, g1, g2, g4, ii_nat (show j < 2147483648 by omega), r2, hr1, q_mtb, hb]
          | false =>
            have e1 : ∀ k, k < 8 → tb (s ||| 1 <<< (ii r &&& 31)) k = (tb s k || decide (r = k)) := fun k hk => by
              show tb (s ||| bitN r) k = _
              rw [tb_or s _ (by omega), tb_bitN (by omega) (by omega)]
            have hlt := cntN_lt (f := fun k => !tb s k) (g := fun k => !tb (s ||| 1 <<< (ii r &&& 31)) k) (m := n) (fun k hk w => by
              rw [e1 k (by omega)] at w
              revert w
              cases tb s k <;> simp) ⟨r, r1, by simp [hb], by rw [e1 r (by omega)]; simp⟩
            obtain ⟨v, hv⟩ := ih (s ||| 1 <<< (ii r &&& 31)) (y + 1) r r1 (by omega)
            refine ⟨v, fun Q => ?_⟩
            rw [← hv Q, e_Mdl_way_10]
            simp only [↓e_Mdl_way_0, ↓e_Mdl_way_1, ↓e_Mdl_way_2, ↓e_Mdl_way_3, ↓e_Mdl_way_4, ↓e_Mdl_way_5, ↓e_Mdl_way_7, ↓e_Mdl_way_8, ↓e_Mdl_way_12, ↓e_Mdl_way_13, ↓e_Mdl_way_16, ↓e_Mdl_way_17, ↓e_Mdl_way_20, ↓e_Mdl_way_22, ↓e_Mdl_way_25, ↓e_Mdl_way_28, ↓e_Mdl_way_31, ↓e_Mdl_way_32, ↓e_Mdl_way_33, ↓e_Mdl_way_35, ↓e_Mdl_way_37, ↓e_Mdl_way_38, ↓e_Mdl_way_41, ↓e_Mdl_way_42, ↓e_Mdl_way_43, ↓e_Mdl_way_44, ↓e_Mdl_way_46, ↓e_Mdl_way_49, ↓e_Mdl_way_52, ↓e_Mdl_way_54, ↓e_Mdl_way_55, ↓e_Mdl_way_56, ↓e_Mdl_way_57, ↓e_Mdl_way_59, ↓e_Mdl_way_60, ↓e_Mdl_way_61, ↓e_Mdl_way_62, ↓e_Mdl_way_65, ↓e_Mdl_way_68, ↓e_Mdl_way_70, not_true_eq_false, not_false_eq_true, one0, true_or, or_true, eq_self, bI_z, bI_nz, bI_o, b_ft, bI_1, bI_0, ↓kC_l, ↓kC_r, Option.toList_some, Option.toList_none, List.cons_append, List.nil_append, s1_0, s1_1i, s1_1r, s1_1w, s1_1n, s1_s, s2_0, s2_1i, s2_1r, s2_1w, s2_1n, s2_s, gI_sI, gI_sR, gI_sL, gI_sD, gR_sI, gR_sR, gR_sL, gR_sD, gL_sI, gL_sR, gL_sL, gL_sD, gD_sI, gD_sR, gD_sL, gD_sD, isK_sI, isK_sR, isK_sL, isK_sD, inL_sI, inL_sR, inL_sL, inL_sD, nx_sI, nx_sR, nx_sL, nx_sD, kd_sI, kd_sR, kd_sL, kd_sD, ln_sI, ln_sR, ln_sL, ln_sD, ↓reduceIte, c8_n, c8_1, c8_2, c8_3, c8_4, Nat.reduceAdd, hne, R.k, R.r9, R.k122, q_ng _ R ht, R.nk ht, R.nz ht, g1, g2, g4, ii_nat (show j < 2147483648 by omega), r2, hr1, q_mtb, hb]
  obtain ⟨v, hv⟩ := key _ (1 <<< (ii i &&& 31)) 1 i hi (Nat.le_refl _)
  refine ⟨v, fun Q => ?_⟩
  rw [← hv Q]
  simp only [↓e_Mdl_way_0, ↓e_Mdl_way_1, ↓e_Mdl_way_2, ↓e_Mdl_way_3, ↓e_Mdl_way_4, ↓e_Mdl_way_5, ↓e_Mdl_way_7, ↓e_Mdl_way_8, ↓e_Mdl_way_12, ↓e_Mdl_way_13, ↓e_Mdl_way_16, ↓e_Mdl_way_17, ↓e_Mdl_way_20, ↓e_Mdl_way_22, ↓e_Mdl_way_25, ↓e_Mdl_way_28, ↓e_Mdl_way_31, ↓e_Mdl_way_32, ↓e_Mdl_way_33, ↓e_Mdl_way_35, ↓e_Mdl_way_37, ↓e_Mdl_way_38, ↓e_Mdl_way_41, ↓e_Mdl_way_42, ↓e_Mdl_way_43, ↓e_Mdl_way_44, ↓e_Mdl_way_46, ↓e_Mdl_way_49, ↓e_Mdl_way_52, ↓e_Mdl_way_54, ↓e_Mdl_way_55, ↓e_Mdl_way_56, ↓e_Mdl_way_57, ↓e_Mdl_way_59, ↓e_Mdl_way_60, ↓e_Mdl_way_61, ↓e_Mdl_way_62, ↓e_Mdl_way_65, ↓e_Mdl_way_68, ↓e_Mdl_way_70, not_true_eq_false, not_false_eq_true, one0, true_or, or_true, eq_self, bI_z, bI_nz, bI_o, b_ft, bI_1, bI_0, ↓kC_l, ↓kC_r, Option.toList_some, Option.toList_none, List.cons_append, List.nil_append, s1_0, s1_1i, s1_1r, s1_1w, s1_1n, s1_s, s2_0, s2_1i, s2_1r, s2_1w, s2_1n, s2_s, gI_sI, gI_sR, gI_sL, gI_sD, gR_sI, gR_sR, gR_sL, gR_sD, gL_sI, gL_sR, gL_sL, gL_sD, gD_sI, gD_sR, gD_sL, gD_sD, isK_sI, isK_sR, isK_sL, isK_sD, inL_sI, inL_sR, inL_sL, inL_sD, nx_sI, nx_sR, nx_sL, nx_sD, kd_sI, kd_sR, kd_sL, kd_sD, ln_sI, ln_sR, ln_sL, ln_sD, ↓reduceIte, c8_n, c8_1, c8_2, c8_3, c8_4, Nat.reduceAdd]
end MRD
