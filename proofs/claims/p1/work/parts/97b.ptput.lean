/-! ptput: the chance that one gets through, on both sides -/
def sil (c : Nat) : UInt64 := FP.ddiv (FP.i2d (100 - ii c)) 4636737291354636288
def tp0 (m c : Nat) : UInt64 := FP.ddiv (FP.i2d (ii m * ii c)) 4636737291354636288
def finNZ (b : UInt64) : Bool := match FP.Core.val64 b with
  | .fin _ c _ => !decide (c = 0)
  | _ => false
theorem tp0_ok : ∀ m, m < 21 → ∀ c, c < 101 → okD (tp0 m c) = true := by decide +kernel
theorem sil_ok : ∀ c, c < 101 → okD (sil c) = true := by decide +kernel
theorem sil_nz : ∀ c, c < 100 → finNZ (sil c) = true := by decide +kernel
theorem tp_100 : ∀ m, m < 21 → FP.dmul (tp0 m 100) (sil 100) = 0 := by decide +kernel
theorem tp_100b : FP.dmul 0 (sil 100) = 0 := by decide +kernel
theorem okD_iff {x : UInt64} : okD x = true ↔ FP.Core.dIsNaN x = false := by
  unfold okD
  rw [decide_eq_true_iff]
  exact Jvm.Free.Fl.noNaN64_no
theorem fin_of {b : UInt64} (hb : finNZ b = true) : FP.Core.DFin b ∧ ¬ FP.Core.DZero b := by
  unfold finNZ at hb
  cases hv : FP.Core.val64 b with
  | nan => rw [hv] at hb; cases hb
  | inf s => rw [hv] at hb; cases hb
  | fin s c q =>
    rw [hv] at hb
    refine ⟨⟨s, c, q, hv⟩, ?_⟩
    rintro ⟨s', q', h'⟩
    rw [hv] at h'
    cases h'
    simp at hb
def TpI (m c k : Nat) (x : UInt64) : Prop := okD x = true ∧ (c = 100 → (k = 1 ∧ x = tp0 m 100) ∨ x = 0)
theorem TpI.next {m c k : Nat} {x : UInt64} (hm : m < 21) (hc : c < 101) (t : TpI m c k x) : okD (FP.dmul x (sil c)) = true ∧ TpI m c (k + 1) (FP.dmul x (sil c)) := by
  obtain ⟨t1, t2⟩ := t
  by_cases e : c = 100
  · subst e
    have hz : FP.dmul x (sil 100) = 0 := by
      rcases t2 rfl with ⟨-, w⟩ | w
      · rw [w]; exact tp_100 m hm
      · rw [w]; exact tp_100b
    rw [hz]
    exact ⟨by decide, by decide, fun _ => Or.inr rfl⟩
  · obtain ⟨f1, f2⟩ := fin_of (sil_nz c (by omega))
    have hk : okD (FP.dmul x (sil c)) = true := okD_iff.mpr (FP.Core.dmul_out' (okD_iff.mp t1) f1 f2)
    exact ⟨hk, hk, fun w => absurd w e⟩
def tpF (m c : Nat) : UInt64 := upto (fun _ x => FP.dmul x (sil c)) (m - 1) 1 (tp0 m c)
section TPT
variable {h : Hp} (Q : MRes → Hp → Prop)
theorem q_chance {m c : Nat} (hm1 : 1 ≤ m) (hm : m ≤ 20) (hc : c ≤ 100) : WP Gm j_S_chanceOfOne 0 [some (.inl (ii m)), some (.inl (ii c)), none, none, none, none, none] [] h Q = Q (.inl (some (.inr (.inr (.inr (tpF m c)))))) h := by
  have o0 : okD (FP.ddiv (FP.i2d (ii m * ii c)) 4636737291354636288) = true := tp0_ok m (by omega) c (by omega)
  have o1 : okD (FP.ddiv (FP.i2d (100 - ii c)) 4636737291354636288) = true := sil_ok c (by omega)
  obtain ⟨step, -⟩ := loopI (fun k (x : UInt64) => WP Gm j_S_chanceOfOne 23 [some (.inl (ii m)), some (.inl (ii c)), some (.inr (.inr (.inr x))), none, some (.inr (.inr (.inr (sil c)))), none, some (.inl (ii k))] [] h Q) (TpI m c) (fun _ x => FP.dmul x (sil c)) m
    (fun k x hk t => by
      obtain ⟨t1, t2⟩ := t.next (by omega) (by omega)
      refine ⟨?_, t2⟩
      rw [e_S_chanceOfOne_23]
      simp only [↓e_S_chanceOfOne_0, ↓e_S_chanceOfOne_1, ↓e_S_chanceOfOne_2, ↓e_S_chanceOfOne_3, ↓e_S_chanceOfOne_4, ↓e_S_chanceOfOne_7, ↓e_S_chanceOfOne_8, ↓e_S_chanceOfOne_9, ↓e_S_chanceOfOne_11, ↓e_S_chanceOfOne_12, ↓e_S_chanceOfOne_13, ↓e_S_chanceOfOne_14, ↓e_S_chanceOfOne_17, ↓e_S_chanceOfOne_18, ↓e_S_chanceOfOne_20, ↓e_S_chanceOfOne_21, ↓e_S_chanceOfOne_25, ↓e_S_chanceOfOne_26, ↓e_S_chanceOfOne_29, ↓e_S_chanceOfOne_30, ↓e_S_chanceOfOne_32, ↓e_S_chanceOfOne_33, ↓e_S_chanceOfOne_34, ↓e_S_chanceOfOne_37, ↓e_S_chanceOfOne_40, ↓e_S_chanceOfOne_41, not_true_eq_false, not_false_eq_true, one0, true_or, or_true, eq_self, bI_z, bI_nz, bI_o, b_ft, bI_1, bI_0, ↓kC_l, ↓kC_r, Option.toList_some, Option.toList_none, List.cons_append, List.nil_append, s1_0, s1_1i, s1_1r, s1_1w, s1_1n, s1_s, s2_0, s2_1i, s2_1r, s2_1w, s2_1n, s2_s, gI_sI, gI_sR, gI_sL, gI_sD, gR_sI, gR_sR, gR_sL, gR_sD, gL_sI, gL_sR, gL_sL, gL_sD, gD_sI, gD_sR, gD_sL, gD_sD, isK_sI, isK_sR, isK_sL, isK_sD, inL_sI, inL_sR, inL_sL, inL_sD, nx_sI, nx_sR, nx_sL, nx_sD, kd_sI, kd_sR, kd_sL, kd_sD, ln_sI, ln_sR, ln_sL, ln_sD, ↓reduceIte, c8_n, c8_1, c8_2, c8_3, c8_4, Nat.reduceAdd, lle_f (show m < 2147483648 by omega) hk, t1, ii_succ]) (m - 1) 1 (tp0 m c) (by omega) ⟨o0, fun e => Or.inl ⟨rfl, by rw [e]⟩⟩
  have pre : WP Gm j_S_chanceOfOne 0 [some (.inl (ii m)), some (.inl (ii c)), none, none, none, none, none] [] h Q = WP Gm j_S_chanceOfOne 23 [some (.inl (ii m)), some (.inl (ii c)), some (.inr (.inr (.inr (tp0 m c)))), none, some (.inr (.inr (.inr (sil c)))), none, some (.inl (ii 1))] [] h Q := by
    simp only [↓e_S_chanceOfOne_0, ↓e_S_chanceOfOne_1, ↓e_S_chanceOfOne_2, ↓e_S_chanceOfOne_3, ↓e_S_chanceOfOne_4, ↓e_S_chanceOfOne_7, ↓e_S_chanceOfOne_8, ↓e_S_chanceOfOne_9, ↓e_S_chanceOfOne_11, ↓e_S_chanceOfOne_12, ↓e_S_chanceOfOne_13, ↓e_S_chanceOfOne_14, ↓e_S_chanceOfOne_17, ↓e_S_chanceOfOne_18, ↓e_S_chanceOfOne_20, ↓e_S_chanceOfOne_21, ↓e_S_chanceOfOne_25, ↓e_S_chanceOfOne_26, ↓e_S_chanceOfOne_29, ↓e_S_chanceOfOne_30, ↓e_S_chanceOfOne_32, ↓e_S_chanceOfOne_33, ↓e_S_chanceOfOne_34, ↓e_S_chanceOfOne_37, ↓e_S_chanceOfOne_40, ↓e_S_chanceOfOne_41, not_true_eq_false, not_false_eq_true, one0, true_or, or_true, eq_self, bI_z, bI_nz, bI_o, b_ft, bI_1, bI_0, ↓kC_l, ↓kC_r, Option.toList_some, Option.toList_none, List.cons_append, List.nil_append, s1_0, s1_1i, s1_1r, s1_1w, s1_1n, s1_s, s2_0, s2_1i, s2_1r, s2_1w, s2_1n, s2_s, gI_sI, gI_sR, gI_sL, gI_sD, gR_sI, gR_sR, gR_sL, gR_sD, gL_sI, gL_sR, gL_sL, gL_sD, gD_sI, gD_sR, gD_sL, gD_sD, isK_sI, isK_sR, isK_sL, isK_sD, inL_sI, inL_sR, inL_sL, inL_sD, nx_sI, nx_sR, nx_sL, nx_sD, kd_sI, kd_sR, kd_sL, kd_sD, ln_sI, ln_sR, ln_sL, ln_sD, ↓reduceIte, c8_n, c8_1, c8_2, c8_3, c8_4, Nat.reduceAdd, o0, o1]
    rfl
  rw [pre, step, e_S_chanceOfOne_23]
  simp only [↓e_S_chanceOfOne_0, ↓e_S_chanceOfOne_1, ↓e_S_chanceOfOne_2, ↓e_S_chanceOfOne_3, ↓e_S_chanceOfOne_4, ↓e_S_chanceOfOne_7, ↓e_S_chanceOfOne_8, ↓e_S_chanceOfOne_9, ↓e_S_chanceOfOne_11, ↓e_S_chanceOfOne_12, ↓e_S_chanceOfOne_13, ↓e_S_chanceOfOne_14, ↓e_S_chanceOfOne_17, ↓e_S_chanceOfOne_18, ↓e_S_chanceOfOne_20, ↓e_S_chanceOfOne_21, ↓e_S_chanceOfOne_25, ↓e_S_chanceOfOne_26, ↓e_S_chanceOfOne_29, ↓e_S_chanceOfOne_30, ↓e_S_chanceOfOne_32, ↓e_S_chanceOfOne_33, ↓e_S_chanceOfOne_34, ↓e_S_chanceOfOne_37, ↓e_S_chanceOfOne_40, ↓e_S_chanceOfOne_41, not_true_eq_false, not_false_eq_true, one0, true_or, or_true, eq_self, bI_z, bI_nz, bI_o, b_ft, bI_1, bI_0, ↓kC_l, ↓kC_r, Option.toList_some, Option.toList_none, List.cons_append, List.nil_append, s1_0, s1_1i, s1_1r, s1_1w, s1_1n, s1_s, s2_0, s2_1i, s2_1r, s2_1w, s2_1n, s2_s, gI_sI, gI_sR, gI_sL, gI_sD, gR_sI, gR_sR, gR_sL, gR_sD, gL_sI, gL_sR, gL_sL, gL_sD, gD_sI, gD_sR, gD_sL, gD_sD, isK_sI, isK_sR, isK_sL, isK_sD, inL_sI, inL_sR, inL_sL, inL_sD, nx_sI, nx_sR, nx_sL, nx_sD, kd_sI, kd_sR, kd_sL, kd_sD, ln_sI, ln_sR, ln_sL, ln_sD, ↓reduceIte, c8_n, c8_1, c8_2, c8_3, c8_4, Nat.reduceAdd, lle_t (show m < 2147483648 by omega)]
  rfl
theorem q_mtp {m c : Nat} (hm1 : 1 ≤ m) (hm : m ≤ 20) (hc : c ≤ 100) : WP Gm j_Mdl_throughputOf 0 [some (.inl (ii m)), some (.inl (ii c)), none, none, none] [] h Q = Q (.inl (some (.inr (.inr (.inr (tpF m c)))))) h := by
  have o0 : okD (FP.ddiv (FP.i2d (ii m * ii c)) 4636737291354636288) = true := tp0_ok m (by omega) c (by omega)
  have o1 : okD (FP.ddiv (FP.i2d (100 - ii c)) 4636737291354636288) = true := sil_ok c (by omega)
  obtain ⟨step, -⟩ := loopI (fun k (x : UInt64) => WP Gm j_Mdl_throughputOf 12 [some (.inl (ii m)), some (.inl (ii c)), some (.inr (.inr (.inr x))), none, some (.inl (ii k))] [] h Q) (TpI m c) (fun _ x => FP.dmul x (sil c)) m
    (fun k x hk t => by
      obtain ⟨t1, t2⟩ := t.next (by omega) (by omega)
      unfold sil at t1
      refine ⟨?_, t2⟩
      rw [e_Mdl_throughputOf_12]
      simp only [↓e_Mdl_throughputOf_0, ↓e_Mdl_throughputOf_1, ↓e_Mdl_throughputOf_2, ↓e_Mdl_throughputOf_3, ↓e_Mdl_throughputOf_4, ↓e_Mdl_throughputOf_7, ↓e_Mdl_throughputOf_8, ↓e_Mdl_throughputOf_9, ↓e_Mdl_throughputOf_10, ↓e_Mdl_throughputOf_14, ↓e_Mdl_throughputOf_15, ↓e_Mdl_throughputOf_18, ↓e_Mdl_throughputOf_19, ↓e_Mdl_throughputOf_21, ↓e_Mdl_throughputOf_22, ↓e_Mdl_throughputOf_23, ↓e_Mdl_throughputOf_24, ↓e_Mdl_throughputOf_27, ↓e_Mdl_throughputOf_28, ↓e_Mdl_throughputOf_29, ↓e_Mdl_throughputOf_30, ↓e_Mdl_throughputOf_33, ↓e_Mdl_throughputOf_36, ↓e_Mdl_throughputOf_37, not_true_eq_false, not_false_eq_true, one0, true_or, or_true, eq_self, bI_z, bI_nz, bI_o, b_ft, bI_1, bI_0, ↓kC_l, ↓kC_r, Option.toList_some, Option.toList_none, List.cons_append, List.nil_append, s1_0, s1_1i, s1_1r, s1_1w, s1_1n, s1_s, s2_0, s2_1i, s2_1r, s2_1w, s2_1n, s2_s, gI_sI, gI_sR, gI_sL, gI_sD, gR_sI, gR_sR, gR_sL, gR_sD, gL_sI, gL_sR, gL_sL, gL_sD, gD_sI, gD_sR, gD_sL, gD_sD, isK_sI, isK_sR, isK_sL, isK_sD, inL_sI, inL_sR, inL_sL, inL_sD, nx_sI, nx_sR, nx_sL, nx_sD, kd_sI, kd_sR, kd_sL, kd_sD, ln_sI, ln_sR, ln_sL, ln_sD, ↓reduceIte, c8_n, c8_1, c8_2, c8_3, c8_4, Nat.reduceAdd, lle_f (show m < 2147483648 by omega) hk, o1, t1, ii_succ]
      rfl) (m - 1) 1 (tp0 m c) (by omega) ⟨o0, fun e => Or.inl ⟨rfl, by rw [e]⟩⟩
  have pre : WP Gm j_Mdl_throughputOf 0 [some (.inl (ii m)), some (.inl (ii c)), none, none, none] [] h Q = WP Gm j_Mdl_throughputOf 12 [some (.inl (ii m)), some (.inl (ii c)), some (.inr (.inr (.inr (tp0 m c)))), none, some (.inl (ii 1))] [] h Q := by
    simp only [↓e_Mdl_throughputOf_0, ↓e_Mdl_throughputOf_1, ↓e_Mdl_throughputOf_2, ↓e_Mdl_throughputOf_3, ↓e_Mdl_throughputOf_4, ↓e_Mdl_throughputOf_7, ↓e_Mdl_throughputOf_8, ↓e_Mdl_throughputOf_9, ↓e_Mdl_throughputOf_10, ↓e_Mdl_throughputOf_14, ↓e_Mdl_throughputOf_15, ↓e_Mdl_throughputOf_18, ↓e_Mdl_throughputOf_19, ↓e_Mdl_throughputOf_21, ↓e_Mdl_throughputOf_22, ↓e_Mdl_throughputOf_23, ↓e_Mdl_throughputOf_24, ↓e_Mdl_throughputOf_27, ↓e_Mdl_throughputOf_28, ↓e_Mdl_throughputOf_29, ↓e_Mdl_throughputOf_30, ↓e_Mdl_throughputOf_33, ↓e_Mdl_throughputOf_36, ↓e_Mdl_throughputOf_37, not_true_eq_false, not_false_eq_true, one0, true_or, or_true, eq_self, bI_z, bI_nz, bI_o, b_ft, bI_1, bI_0, ↓kC_l, ↓kC_r, Option.toList_some, Option.toList_none, List.cons_append, List.nil_append, s1_0, s1_1i, s1_1r, s1_1w, s1_1n, s1_s, s2_0, s2_1i, s2_1r, s2_1w, s2_1n, s2_s, gI_sI, gI_sR, gI_sL, gI_sD, gR_sI, gR_sR, gR_sL, gR_sD, gL_sI, gL_sR, gL_sL, gL_sD, gD_sI, gD_sR, gD_sL, gD_sD, isK_sI, isK_sR, isK_sL, isK_sD, inL_sI, inL_sR, inL_sL, inL_sD, nx_sI, nx_sR, nx_sL, nx_sD, kd_sI, kd_sR, kd_sL, kd_sD, ln_sI, ln_sR, ln_sL, ln_sD, ↓reduceIte, c8_n, c8_1, c8_2, c8_3, c8_4, Nat.reduceAdd, o0, o1]
    rfl
  rw [pre, step, e_Mdl_throughputOf_12]
  simp only [↓e_Mdl_throughputOf_0, ↓e_Mdl_throughputOf_1, ↓e_Mdl_throughputOf_2, ↓e_Mdl_throughputOf_3, ↓e_Mdl_throughputOf_4, ↓e_Mdl_throughputOf_7, ↓e_Mdl_throughputOf_8, ↓e_Mdl_throughputOf_9, ↓e_Mdl_throughputOf_10, ↓e_Mdl_throughputOf_14, ↓e_Mdl_throughputOf_15, ↓e_Mdl_throughputOf_18, ↓e_Mdl_throughputOf_19, ↓e_Mdl_throughputOf_21, ↓e_Mdl_throughputOf_22, ↓e_Mdl_throughputOf_23, ↓e_Mdl_throughputOf_24, ↓e_Mdl_throughputOf_27, ↓e_Mdl_throughputOf_28, ↓e_Mdl_throughputOf_29, ↓e_Mdl_throughputOf_30, ↓e_Mdl_throughputOf_33, ↓e_Mdl_throughputOf_36, ↓e_Mdl_throughputOf_37, not_true_eq_false, not_false_eq_true, one0, true_or, or_true, eq_self, bI_z, bI_nz, bI_o, b_ft, bI_1, bI_0, ↓kC_l, ↓kC_r, Option.toList_some, Option.toList_none, List.cons_append, List.nil_append, s1_0, s1_1i, s1_1r, s1_1w, s1_1n, s1_s, s2_0, s2_1i, s2_1r, s2_1w, s2_1n, s2_s, gI_sI, gI_sR, gI_sL, gI_sD, gR_sI, gR_sR, gR_sL, gR_sD, gL_sI, gL_sR, gL_sL, gL_sD, gD_sI, gD_sR, gD_sL, gD_sD, isK_sI, isK_sR, isK_sL, isK_sD, inL_sI, inL_sR, inL_sL, inL_sD, nx_sI, nx_sR, nx_sL, nx_sD, kd_sI, kd_sR, kd_sL, kd_sD, ln_sI, ln_sR, ln_sL, ln_sD, ↓reduceIte, c8_n, c8_1, c8_2, c8_3, c8_4, Nat.reduceAdd, lle_t (show m < 2147483648 by omega)]
  rfl
def bcS (m k b : Nat) : Nat := if Op.cmpValue (FP.dcmp (tpF m k) (tpF m b)) .l ≤ 0 then b else k
def bcF (m : Nat) : Nat := upto (bcS m) 100 1 0
theorem q_mbc {m : Nat} (hm1 : 1 ≤ m) (hm : m ≤ 20) : WP Gm j_Mdl_bestChance 25 [some (.inr (.inl (some 121))), some (.inl (ii m)), none, none] [] h Q = Q (.inl (some (.inl (ii (bcF m))))) h := by
  obtain ⟨step, -⟩ := loopI (fun k (b : Nat) => WP Gm j_Mdl_bestChance 29 [some (.inr (.inl (some 121))), some (.inl (ii m)), some (.inl (ii b)), some (.inl (ii k))] [] h Q) (fun _ b => b ≤ 100) (bcS m) 101
    (fun k b hk hb => by
      have hgt : ((100 : Int32) < ii k) = False := by rw [show (100 : Int32) = ii 100 from rfl, ii_lt (by omega) (by omega)]; exact eq_false (by omega)
      refine ⟨?_, ?_⟩
      · rw [e_Mdl_bestChance_29]
        unfold bcS
        simp only [↓e_Mdl_bestChance_0, ↓e_Mdl_bestChance_1, ↓e_Mdl_bestChance_2, ↓e_Mdl_bestChance_3, ↓e_Mdl_bestChance_5, ↓e_Mdl_bestChance_8, ↓e_Mdl_bestChance_11, ↓e_Mdl_bestChance_12, ↓e_Mdl_bestChance_15, ↓e_Mdl_bestChance_16, ↓e_Mdl_bestChance_17, ↓e_Mdl_bestChance_20, ↓e_Mdl_bestChance_23, ↓e_Mdl_bestChance_24, ↓e_Mdl_bestChance_25, ↓e_Mdl_bestChance_26, ↓e_Mdl_bestChance_27, ↓e_Mdl_bestChance_28, ↓e_Mdl_bestChance_30, ↓e_Mdl_bestChance_32, ↓e_Mdl_bestChance_35, ↓e_Mdl_bestChance_36, ↓e_Mdl_bestChance_37, ↓e_Mdl_bestChance_40, ↓e_Mdl_bestChance_41, ↓e_Mdl_bestChance_42, ↓e_Mdl_bestChance_45, ↓e_Mdl_bestChance_46, ↓e_Mdl_bestChance_49, ↓e_Mdl_bestChance_50, ↓e_Mdl_bestChance_51, ↓e_Mdl_bestChance_54, ↓e_Mdl_bestChance_57, ↓e_Mdl_bestChance_58, not_true_eq_false, not_false_eq_true, one0, true_or, or_true, eq_self, bI_z, bI_nz, bI_o, b_ft, bI_1, bI_0, ↓kC_l, ↓kC_r, Option.toList_some, Option.toList_none, List.cons_append, List.nil_append, s1_0, s1_1i, s1_1r, s1_1w, s1_1n, s1_s, s2_0, s2_1i, s2_1r, s2_1w, s2_1n, s2_s, gI_sI, gI_sR, gI_sL, gI_sD, gR_sI, gR_sR, gR_sL, gR_sD, gL_sI, gL_sR, gL_sL, gL_sD, gD_sI, gD_sR, gD_sL, gD_sD, isK_sI, isK_sR, isK_sL, isK_sD, inL_sI, inL_sR, inL_sL, inL_sD, nx_sI, nx_sR, nx_sL, nx_sD, kd_sI, kd_sR, kd_sL, kd_sD, ln_sI, ln_sR, ln_sL, ln_sD, ↓reduceIte, c8_n, c8_1, c8_2, c8_3, c8_4, Nat.reduceAdd, hgt, q_mtp _ hm1 hm (show k ≤ 100 by omega), q_mtp _ hm1 hm hb, ii_succ]
        by_cases e : Op.cmpValue (FP.dcmp (tpF m k) (tpF m b)) .l ≤ 0
        · rw [if_pos e, if_pos e]
        · rw [if_neg e, if_neg e]
      · unfold bcS
        by_cases e : Op.cmpValue (FP.dcmp (tpF m k) (tpF m b)) .l ≤ 0
        · rw [if_pos e]; exact hb
        · rw [if_neg e]; omega) 100 1 0 (by omega) (by omega)
  have pre : WP Gm j_Mdl_bestChance 25 [some (.inr (.inl (some 121))), some (.inl (ii m)), none, none] [] h Q = WP Gm j_Mdl_bestChance 29 [some (.inr (.inl (some 121))), some (.inl (ii m)), some (.inl (ii 0)), some (.inl (ii 1))] [] h Q := by
    simp only [↓e_Mdl_bestChance_0, ↓e_Mdl_bestChance_1, ↓e_Mdl_bestChance_2, ↓e_Mdl_bestChance_3, ↓e_Mdl_bestChance_5, ↓e_Mdl_bestChance_8, ↓e_Mdl_bestChance_11, ↓e_Mdl_bestChance_12, ↓e_Mdl_bestChance_15, ↓e_Mdl_bestChance_16, ↓e_Mdl_bestChance_17, ↓e_Mdl_bestChance_20, ↓e_Mdl_bestChance_23, ↓e_Mdl_bestChance_24, ↓e_Mdl_bestChance_25, ↓e_Mdl_bestChance_26, ↓e_Mdl_bestChance_27, ↓e_Mdl_bestChance_28, ↓e_Mdl_bestChance_30, ↓e_Mdl_bestChance_32, ↓e_Mdl_bestChance_35, ↓e_Mdl_bestChance_36, ↓e_Mdl_bestChance_37, ↓e_Mdl_bestChance_40, ↓e_Mdl_bestChance_41, ↓e_Mdl_bestChance_42, ↓e_Mdl_bestChance_45, ↓e_Mdl_bestChance_46, ↓e_Mdl_bestChance_49, ↓e_Mdl_bestChance_50, ↓e_Mdl_bestChance_51, ↓e_Mdl_bestChance_54, ↓e_Mdl_bestChance_57, ↓e_Mdl_bestChance_58, not_true_eq_false, not_false_eq_true, one0, true_or, or_true, eq_self, bI_z, bI_nz, bI_o, b_ft, bI_1, bI_0, ↓kC_l, ↓kC_r, Option.toList_some, Option.toList_none, List.cons_append, List.nil_append, s1_0, s1_1i, s1_1r, s1_1w, s1_1n, s1_s, s2_0, s2_1i, s2_1r, s2_1w, s2_1n, s2_s, gI_sI, gI_sR, gI_sL, gI_sD, gR_sI, gR_sR, gR_sL, gR_sD, gL_sI, gL_sR, gL_sL, gL_sD, gD_sI, gD_sR, gD_sL, gD_sD, isK_sI, isK_sR, isK_sL, isK_sD, inL_sI, inL_sR, inL_sL, inL_sD, nx_sI, nx_sR, nx_sL, nx_sD, kd_sI, kd_sR, kd_sL, kd_sD, ln_sI, ln_sR, ln_sL, ln_sD, ↓reduceIte, c8_n, c8_1, c8_2, c8_3, c8_4, Nat.reduceAdd]
    rfl
  rw [pre, step, e_Mdl_bestChance_29]
  simp only [↓e_Mdl_bestChance_0, ↓e_Mdl_bestChance_1, ↓e_Mdl_bestChance_2, ↓e_Mdl_bestChance_3, ↓e_Mdl_bestChance_5, ↓e_Mdl_bestChance_8, ↓e_Mdl_bestChance_11, ↓e_Mdl_bestChance_12, ↓e_Mdl_bestChance_15, ↓e_Mdl_bestChance_16, ↓e_Mdl_bestChance_17, ↓e_Mdl_bestChance_20, ↓e_Mdl_bestChance_23, ↓e_Mdl_bestChance_24, ↓e_Mdl_bestChance_25, ↓e_Mdl_bestChance_26, ↓e_Mdl_bestChance_27, ↓e_Mdl_bestChance_28, ↓e_Mdl_bestChance_30, ↓e_Mdl_bestChance_32, ↓e_Mdl_bestChance_35, ↓e_Mdl_bestChance_36, ↓e_Mdl_bestChance_37, ↓e_Mdl_bestChance_40, ↓e_Mdl_bestChance_41, ↓e_Mdl_bestChance_42, ↓e_Mdl_bestChance_45, ↓e_Mdl_bestChance_46, ↓e_Mdl_bestChance_49, ↓e_Mdl_bestChance_50, ↓e_Mdl_bestChance_51, ↓e_Mdl_bestChance_54, ↓e_Mdl_bestChance_57, ↓e_Mdl_bestChance_58, not_true_eq_false, not_false_eq_true, one0, true_or, or_true, eq_self, bI_z, bI_nz, bI_o, b_ft, bI_1, bI_0, ↓kC_l, ↓kC_r, Option.toList_some, Option.toList_none, List.cons_append, List.nil_append, s1_0, s1_1i, s1_1r, s1_1w, s1_1n, s1_s, s2_0, s2_1i, s2_1r, s2_1w, s2_1n, s2_s, gI_sI, gI_sR, gI_sL, gI_sD, gR_sI, gR_sR, gR_sL, gR_sD, gL_sI, gL_sR, gL_sL, gL_sD, gD_sI, gD_sR, gD_sL, gD_sD, isK_sI, isK_sR, isK_sL, isK_sD, inL_sI, inL_sR, inL_sL, inL_sD, nx_sI, nx_sR, nx_sL, nx_sD, kd_sI, kd_sR, kd_sL, kd_sD, ln_sI, ln_sR, ln_sL, ln_sD, ↓reduceIte, c8_n, c8_1, c8_2, c8_3, c8_4, Nat.reduceAdd, (show ((100 : Int32) < ii 101) = True from eq_true (by decide))]
  rfl
theorem q_sbc {m : Nat} (hm1 : 1 ≤ m) (hm : m ≤ 20) (hk1 : isK h 1 kc_S = true) : WP Gm j_S_bestChance 21 [some (.inr (.inl (some 1))), some (.inl (ii m)), none, none, none, none, none, none] [] h Q = Q (.inl (some (.inl (ii (bcF m))))) h := by
  obtain ⟨⟨w, step⟩, -⟩ := loopIG (fun k (b : Nat) (w : Option MV) => WP Gm j_S_bestChance 32 [some (.inr (.inl (some 1))), some (.inl (ii m)), some (.inl (ii b)), some (.inr (.inr (.inr (tpF m b)))), none, some (.inl (ii k)), w, none] [] h Q) (fun _ b => b ≤ 100) (bcS m) 101
    (fun k b w hk hb => by
      have hgt : ((100 : Int32) < ii k) = False := by rw [show (100 : Int32) = ii 100 from rfl, ii_lt (by omega) (by omega)]; exact eq_false (by omega)
      refine ⟨⟨some (.inr (.inr (.inr (tpF m k)))), ?_⟩, ?_⟩
      · rw [e_S_bestChance_32]
        unfold bcS
        simp only [↓e_S_bestChance_0, ↓e_S_bestChance_1, ↓e_S_bestChance_2, ↓e_S_bestChance_4, ↓e_S_bestChance_7, ↓e_S_bestChance_10, ↓e_S_bestChance_21, ↓e_S_bestChance_22, ↓e_S_bestChance_23, ↓e_S_bestChance_24, ↓e_S_bestChance_25, ↓e_S_bestChance_28, ↓e_S_bestChance_29, ↓e_S_bestChance_30, ↓e_S_bestChance_34, ↓e_S_bestChance_36, ↓e_S_bestChance_39, ↓e_S_bestChance_40, ↓e_S_bestChance_42, ↓e_S_bestChance_45, ↓e_S_bestChance_47, ↓e_S_bestChance_49, ↓e_S_bestChance_50, ↓e_S_bestChance_51, ↓e_S_bestChance_54, ↓e_S_bestChance_56, ↓e_S_bestChance_57, ↓e_S_bestChance_59, ↓e_S_bestChance_60, ↓e_S_bestChance_63, ↓e_S_bestChance_66, ↓e_S_bestChance_67, not_true_eq_false, not_false_eq_true, one0, true_or, or_true, eq_self, bI_z, bI_nz, bI_o, b_ft, bI_1, bI_0, ↓kC_l, ↓kC_r, Option.toList_some, Option.toList_none, List.cons_append, List.nil_append, s1_0, s1_1i, s1_1r, s1_1w, s1_1n, s1_s, s2_0, s2_1i, s2_1r, s2_1w, s2_1n, s2_s, gI_sI, gI_sR, gI_sL, gI_sD, gR_sI, gR_sR, gR_sL, gR_sD, gL_sI, gL_sR, gL_sL, gL_sD, gD_sI, gD_sR, gD_sL, gD_sD, isK_sI, isK_sR, isK_sL, isK_sD, inL_sI, inL_sR, inL_sL, inL_sD, nx_sI, nx_sR, nx_sL, nx_sD, kd_sI, kd_sR, kd_sL, kd_sD, ln_sI, ln_sR, ln_sL, ln_sD, ↓reduceIte, c8_n, c8_1, c8_2, c8_3, c8_4, Nat.reduceAdd, hgt, q_chance _ hm1 hm (show k ≤ 100 by omega), ii_succ]
        by_cases e : Op.cmpValue (FP.dcmp (tpF m k) (tpF m b)) .l ≤ 0
        · rw [if_pos e, if_pos e]
        · rw [if_neg e, if_neg e]
      · unfold bcS
        by_cases e : Op.cmpValue (FP.dcmp (tpF m k) (tpF m b)) .l ≤ 0
        · rw [if_pos e]; exact hb
        · rw [if_neg e]; omega) 100 1 0 none (by omega) (by omega)
  have c0 : ∀ Q2 : MRes → Hp → Prop, WP Gm j_S_chanceOfOne 0 [some (.inl (ii m)), some (.inl 0), none, none, none, none, none] [] h Q2 = Q2 (.inl (some (.inr (.inr (.inr (tpF m 0)))))) h := fun Q2 => q_chance Q2 hm1 hm (c := 0) (by omega)
  have pre : WP Gm j_S_bestChance 21 [some (.inr (.inl (some 1))), some (.inl (ii m)), none, none, none, none, none, none] [] h Q = WP Gm j_S_bestChance 32 [some (.inr (.inl (some 1))), some (.inl (ii m)), some (.inl (ii 0)), some (.inr (.inr (.inr (tpF m 0)))), none, some (.inl (ii 1)), none, none] [] h Q := by
    simp only [↓e_S_bestChance_0, ↓e_S_bestChance_1, ↓e_S_bestChance_2, ↓e_S_bestChance_4, ↓e_S_bestChance_7, ↓e_S_bestChance_10, ↓e_S_bestChance_21, ↓e_S_bestChance_22, ↓e_S_bestChance_23, ↓e_S_bestChance_24, ↓e_S_bestChance_25, ↓e_S_bestChance_28, ↓e_S_bestChance_29, ↓e_S_bestChance_30, ↓e_S_bestChance_34, ↓e_S_bestChance_36, ↓e_S_bestChance_39, ↓e_S_bestChance_40, ↓e_S_bestChance_42, ↓e_S_bestChance_45, ↓e_S_bestChance_47, ↓e_S_bestChance_49, ↓e_S_bestChance_50, ↓e_S_bestChance_51, ↓e_S_bestChance_54, ↓e_S_bestChance_56, ↓e_S_bestChance_57, ↓e_S_bestChance_59, ↓e_S_bestChance_60, ↓e_S_bestChance_63, ↓e_S_bestChance_66, ↓e_S_bestChance_67, not_true_eq_false, not_false_eq_true, one0, true_or, or_true, eq_self, bI_z, bI_nz, bI_o, b_ft, bI_1, bI_0, ↓kC_l, ↓kC_r, Option.toList_some, Option.toList_none, List.cons_append, List.nil_append, s1_0, s1_1i, s1_1r, s1_1w, s1_1n, s1_s, s2_0, s2_1i, s2_1r, s2_1w, s2_1n, s2_s, gI_sI, gI_sR, gI_sL, gI_sD, gR_sI, gR_sR, gR_sL, gR_sD, gL_sI, gL_sR, gL_sL, gL_sD, gD_sI, gD_sR, gD_sL, gD_sD, isK_sI, isK_sR, isK_sL, isK_sD, inL_sI, inL_sR, inL_sL, inL_sD, nx_sI, nx_sR, nx_sL, nx_sD, kd_sI, kd_sR, kd_sL, kd_sD, ln_sI, ln_sR, ln_sL, ln_sD, ↓reduceIte, c8_n, c8_1, c8_2, c8_3, c8_4, Nat.reduceAdd, c0]
    rfl
  rw [pre, step, e_S_bestChance_32]
  simp only [↓e_S_bestChance_0, ↓e_S_bestChance_1, ↓e_S_bestChance_2, ↓e_S_bestChance_4, ↓e_S_bestChance_7, ↓e_S_bestChance_10, ↓e_S_bestChance_21, ↓e_S_bestChance_22, ↓e_S_bestChance_23, ↓e_S_bestChance_24, ↓e_S_bestChance_25, ↓e_S_bestChance_28, ↓e_S_bestChance_29, ↓e_S_bestChance_30, ↓e_S_bestChance_34, ↓e_S_bestChance_36, ↓e_S_bestChance_39, ↓e_S_bestChance_40, ↓e_S_bestChance_42, ↓e_S_bestChance_45, ↓e_S_bestChance_47, ↓e_S_bestChance_49, ↓e_S_bestChance_50, ↓e_S_bestChance_51, ↓e_S_bestChance_54, ↓e_S_bestChance_56, ↓e_S_bestChance_57, ↓e_S_bestChance_59, ↓e_S_bestChance_60, ↓e_S_bestChance_63, ↓e_S_bestChance_66, ↓e_S_bestChance_67, not_true_eq_false, not_false_eq_true, one0, true_or, or_true, eq_self, bI_z, bI_nz, bI_o, b_ft, bI_1, bI_0, ↓kC_l, ↓kC_r, Option.toList_some, Option.toList_none, List.cons_append, List.nil_append, s1_0, s1_1i, s1_1r, s1_1w, s1_1n, s1_s, s2_0, s2_1i, s2_1r, s2_1w, s2_1n, s2_s, gI_sI, gI_sR, gI_sL, gI_sD, gR_sI, gR_sR, gR_sL, gR_sD, gL_sI, gL_sR, gL_sL, gL_sD, gD_sI, gD_sR, gD_sL, gD_sD, isK_sI, isK_sR, isK_sL, isK_sD, inL_sI, inL_sR, inL_sL, inL_sD, nx_sI, nx_sR, nx_sL, nx_sD, kd_sI, kd_sR, kd_sL, kd_sD, ln_sI, ln_sR, ln_sL, ln_sD, ↓reduceIte, c8_n, c8_1, c8_2, c8_3, c8_4, Nat.reduceAdd, (show ((100 : Int32) < ii 101) = True from eq_true (by decide))]
  rfl
end TPT
