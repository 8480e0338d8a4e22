/-! pgrow: a list that is full takes one more -/
theorem ii_half {c : Nat} (hc : c < 2147483648) : ii c >>> (1 &&& 31) = ii (c / 2) := by
  apply Int32.toBitVec_inj.mp
  have h1 : (ii c).toBitVec = BitVec.ofNat 32 c := rfl
  have h2 : (ii (c / 2)).toBitVec = BitVec.ofNat 32 (c / 2) := rfl
  have h3 : ((1 : Int32) &&& 31) = 1 := by decide
  rw [h3, Int32.toBitVec_shiftRight, h1, h2]
  apply BitVec.eq_of_toInt_eq
  have e1 : (BitVec.ofNat 32 c).toInt = (c : Int) := by
    rw [BitVec.toInt_ofNat']
    simp [Int.bmod]
    omega
  have e2 : (BitVec.ofNat 32 (c / 2)).toInt = ((c / 2 : Nat) : Int) := by
    rw [BitVec.toInt_ofNat']
    simp [Int.bmod]
    omega
  rw [BitVec.toInt_sshiftRight', e1, e2]
  rw [show ((1 : Int32).toBitVec.smod 32).toNat = 1 by decide, Int.shiftRight_eq_div_pow]
  omega
section GROW
variable {τ : Nat → Nat} {h : Hp} {l a r k c : Nat} {E : Nat → Nat → Prop}
theorem isAny_cR (h : Hp) (a d sp dp n : Nat) (x : Option Nat) : isAny (cR h a d sp dp n) x = isAny h x := by cases x <;> rfl
theorem q_laddG (Q : MRes → Hp → Prop) (L : Li h l a k) (hk : isK h a 106 = true) (hlt : k = ln h a) (h10 : 10 ≤ k) (hl : k < 600000) (hne : a ≠ eD) (hr : okR cM sM h 1 (k + k / 2) = true) {x : Option Nat} (hx : isAny h x = true) (hany : ∀ i, i < k → isAny h (gR h a i) = true) :
    WP Gm j_ArrayList_add_LjavalangObjectZ 0 [some (.inr (.inl (some l))), some (.inr (.inl x))] [] h Q = Q (.inl (some (.inl 1))) (sI (sR (sR (cR (hN (sI h l 0 (gI h l 0 + 1)) 106 (k + k / 2) (k + k / 2)) a (nx h) 0 0 k) l 1 (some (nx h))) (nx h) k x) l 2 (ii (k + 1))) := by
  have hal := isK_lt hk
  have hll := isK_lt L.k
  generalize hh : hN (sI h l 0 (gI h l 0 + 1)) 106 (k + k / 2) (k + k / 2) = h1
  have kL : isK h1 l kc_ArrayList = true := by rw [← hh, isK_hN (by rw [nx_sI]; exact hll), isK_sI]; exact L.k
  have kA : isK h1 a 106 = true := by rw [← hh, isK_hN (by rw [nx_sI]; exact hal), isK_sI]; exact hk
  have kN9 : isK h1 (nx h) 106 = true := by rw [← hh]; exact isK_new
  have lA : ln h1 a = k := by rw [← hh, ln_hN, if_neg (by rw [nx_sI]; omega), ln_sI]; exact hlt.symm
  have lN9 : ln h1 (nx h) = k + k / 2 := by rw [← hh]; exact if_pos rfl
  have sL9 : gI h1 l 2 = ii k := by rw [← hh, gI_hN, if_neg (by rw [nx_sI]; omega), gI_sI, if_neg (by simp)]; exact L.s
  have eA : lnE h1 a = k := by rw [lnE_ne hne]; exact lA
  have eA0 : lnE h a = k := by rw [lnE_ne hne]; exact hlt.symm
  have hx1 : isAny h1 x = true := by rw [← hh]; exact isAny_hN (by rw [isAny_sI]; exact hx)
  have inK : inL h1 (nx h) (ii k) = true := inL_n (by omega) (by rw [lN9]; omega)
  have e1 : ii (k + 1) - ii k = 1 := by rw [← ii_succ, Int32.add_comm, Int32.add_sub_cancel]
  have ha0 : ¬ a = 0 := by
    rcases L.d with e | e
    · exact absurd e.1 hne
    · exact e.2.2.1
  have hkS : isK (sI h l 0 (gI h l 0 + 1)) a 106 = true := hk
  have e2 : ii k >>> (1 &&& 31) = ii (k / 2) := ii_half (by omega)
  have e3 : ((1 : Int32) < ii (k / 2)) = True := by rw [show (1 : Int32) = ii 1 from rfl, ii_lt (by omega) (by omega)]; exact eq_true (by omega)
  have e3' : (ii (k / 2) ≤ (1 : Int32)) = False := by rw [show (1 : Int32) = ii 1 from rfl, ii_le (by omega) (by omega)]; exact eq_false (by omega)
  have e4 : ii k + ii (k / 2) = ii (k + k / 2) := by unfold ii; rw [Int32.ofNat_add]
  have e5 : (ii (k + k / 2) ≤ (0 : Int32)) = False := by rw [z_ii, ii_le (by omega) (by omega)]; exact eq_false (by omega)
  have e6 : ((2147483639 : Int32) < ii (k + k / 2)) = False := by rw [show (2147483639 : Int32) = ii 2147483639 from rfl, ii_lt (by omega) (by omega)]; exact eq_false (by omega)
  have e7 : ((0 : Int32) < ii k) = True := by rw [z_ii, ii_lt (by omega) (by omega)]; exact eq_true (by omega)
  have n9 : (ii (k + k / 2)).toNatClampNeg = k + k / 2 := ii_nat (by omega)
  have nk : (ii k).toNatClampNeg = k := ii_nat (by omega)
  have zn : (0 : Int32).toNatClampNeg = 0 := by decide
  have p9 : ((0 : Int32) ≤ ii (k + k / 2)) = True := by rw [z_ii, ii_le (by omega) (by omega)]; exact eq_true (by omega)
  have b9 : (k + k / 2 ≤ 1000000) = True := eq_true (by omega)
  have m1 : (ii k ≤ ii (k + k / 2)) = True := by rw [ii_le (by omega) (by omega)]; exact eq_true (by omega)
  have m2 : (ii (k + k / 2) < ii k) = False := by rw [ii_lt (by omega) (by omega)]; exact eq_false (by omega)
  have hcp : cpOK h1 6 a (nx h) 0 0 (ii k) [] = true := by
    have g0 : (0 : Int32) ≤ ii k := by rw [z_ii, ii_le (by omega) (by omega)]; omega
    unfold cpOK
    rw [kA, kN9, zn, nk, lA, lN9]
    show ((true && true && (decide ((0 : Int32) ≤ 0) && decide ((0 : Int32) ≤ 0) && decide ((0 : Int32) ≤ ii k))) && (decide (0 + k ≤ k) && decide (0 + k ≤ k + k / 2)) && decide (catS [] ≤ 8)) = true
    rw [decide_eq_true g0, decide_eq_true (show 0 + k ≤ k by omega), decide_eq_true (show 0 + k ≤ k + k / 2 by omega)]
    rfl
  have hf : (List.range k).all (fun i => isAny h1 (gR h1 a (0 + i))) = true := List.all_eq_true.mpr fun i hi => by
    have hik := List.mem_range.mp hi
    rw [← hh, gR_hN, if_neg (by rw [nx_sI]; omega), gR_sI, Nat.zero_add]
    exact isAny_hN (by rw [isAny_sI]; exact hany i hik)
  simp only [↓e_ArrayList_add_LjavalangObjectZ_0, ↓e_ArrayList_add_LjavalangObjectZ_1, ↓e_ArrayList_add_LjavalangObjectZ_2, ↓e_ArrayList_add_LjavalangObjectZ_5, ↓e_ArrayList_add_LjavalangObjectZ_6, ↓e_ArrayList_add_LjavalangObjectZ_7, ↓e_ArrayList_add_LjavalangObjectZ_10, ↓e_ArrayList_add_LjavalangObjectZ_11, ↓e_ArrayList_add_LjavalangObjectZ_12, ↓e_ArrayList_add_LjavalangObjectZ_13, ↓e_ArrayList_add_LjavalangObjectZ_16, ↓e_ArrayList_add_LjavalangObjectZ_17, ↓e_ArrayList_add_LjavalangObjectZ_20, ↓e_ArrayList_add_LjavalangObjectZ_23, ↓e_ArrayList_add_LjavalangObjectZ_24, ↓e_ArrayList_add_LjavalangObjectLjavalangObjectIV_0, ↓e_ArrayList_add_LjavalangObjectLjavalangObjectIV_1, ↓e_ArrayList_add_LjavalangObjectLjavalangObjectIV_2, ↓e_ArrayList_add_LjavalangObjectLjavalangObjectIV_3, ↓e_ArrayList_add_LjavalangObjectLjavalangObjectIV_6, ↓e_ArrayList_add_LjavalangObjectLjavalangObjectIV_7, ↓e_ArrayList_add_LjavalangObjectLjavalangObjectIV_10, ↓e_ArrayList_add_LjavalangObjectLjavalangObjectIV_11, ↓e_ArrayList_add_LjavalangObjectLjavalangObjectIV_12, ↓e_ArrayList_add_LjavalangObjectLjavalangObjectIV_13, ↓e_ArrayList_add_LjavalangObjectLjavalangObjectIV_14, ↓e_ArrayList_add_LjavalangObjectLjavalangObjectIV_15, ↓e_ArrayList_add_LjavalangObjectLjavalangObjectIV_16, ↓e_ArrayList_add_LjavalangObjectLjavalangObjectIV_17, ↓e_ArrayList_add_LjavalangObjectLjavalangObjectIV_18, ↓e_ArrayList_add_LjavalangObjectLjavalangObjectIV_19, ↓e_ArrayList_add_LjavalangObjectLjavalangObjectIV_22, ↓e_ArrayList_grow_LjavalangObject_0, ↓e_ArrayList_grow_LjavalangObject_1, ↓e_ArrayList_grow_LjavalangObject_2, ↓e_ArrayList_grow_LjavalangObject_5, ↓e_ArrayList_grow_LjavalangObject_6, ↓e_ArrayList_grow_LjavalangObject_7, ↓e_ArrayList_grow_LjavalangObject_10, ↓e_ArrayList_grow_ILjavalangObject_0, ↓e_ArrayList_grow_ILjavalangObject_1, ↓e_ArrayList_grow_ILjavalangObject_4, ↓e_ArrayList_grow_ILjavalangObject_5, ↓e_ArrayList_grow_ILjavalangObject_6, ↓e_ArrayList_grow_ILjavalangObject_7, ↓e_ArrayList_grow_ILjavalangObject_10, ↓e_ArrayList_grow_ILjavalangObject_11, ↓e_ArrayList_grow_ILjavalangObject_14, ↓e_ArrayList_grow_ILjavalangObject_17, ↓e_ArrayList_grow_ILjavalangObject_20, ↓e_ArrayList_grow_ILjavalangObject_21, ↓e_ArrayList_grow_ILjavalangObject_22, ↓e_ArrayList_grow_ILjavalangObject_23, ↓e_ArrayList_grow_ILjavalangObject_24, ↓e_ArrayList_grow_ILjavalangObject_25, ↓e_ArrayList_grow_ILjavalangObject_26, ↓e_ArrayList_grow_ILjavalangObject_27, ↓e_ArrayList_grow_ILjavalangObject_30, ↓e_ArrayList_grow_ILjavalangObject_31, ↓e_ArrayList_grow_ILjavalangObject_32, ↓e_ArrayList_grow_ILjavalangObject_33, ↓e_ArrayList_grow_ILjavalangObject_36, ↓e_ArrayList_grow_ILjavalangObject_37, ↓e_ArrayList_grow_ILjavalangObject_40, ↓e_ArrayList_grow_ILjavalangObject_41, ↓e_ArrayList_grow_ILjavalangObject_44, ↓e_ArrayList_grow_ILjavalangObject_45, ↓e_ArrayList_grow_ILjavalangObject_46, ↓e_ArrayList_grow_ILjavalangObject_48, ↓e_ArrayList_grow_ILjavalangObject_49, ↓e_ArrayList_grow_ILjavalangObject_52, ↓e_ArrayList_grow_ILjavalangObject_55, ↓e_ArrayList_grow_ILjavalangObject_56, ↓e_ArrayList_grow_ILjavalangObject_59, ↓e_Math_max_0, ↓e_Math_max_1, ↓e_Math_max_2, ↓e_Math_max_5, ↓e_Math_max_6, ↓e_Math_max_9, ↓e_Math_max_10, ↓e_Math_min_0, ↓e_Math_min_1, ↓e_Math_min_2, ↓e_Math_min_5, ↓e_Math_min_6, ↓e_Math_min_9, ↓e_Math_min_10, ↓e_ArraysSupport_newLength_0, ↓e_ArraysSupport_newLength_1, ↓e_ArraysSupport_newLength_2, ↓e_ArraysSupport_newLength_3, ↓e_ArraysSupport_newLength_6, ↓e_ArraysSupport_newLength_7, ↓e_ArraysSupport_newLength_8, ↓e_ArraysSupport_newLength_9, ↓e_ArraysSupport_newLength_10, ↓e_ArraysSupport_newLength_13, ↓e_ArraysSupport_newLength_14, ↓e_ArraysSupport_newLength_16, ↓e_ArraysSupport_newLength_19, ↓e_ArraysSupport_newLength_20, ↓e_Arrays_copyOf_LjavalangObjectILjavalangObject_0, ↓e_Arrays_copyOf_LjavalangObjectILjavalangObject_1, ↓e_Arrays_copyOf_LjavalangObjectILjavalangObject_2, ↓e_Arrays_copyOf_LjavalangObjectILjavalangObject_3, ↓e_Arrays_copyOf_LjavalangObjectILjavalangObject_6, ↓e_Arrays_copyOf_LjavalangObjectILjavalangObject_9, ↓e_Arrays_copyOf_LjavalangObjectILjavalangClassLjavalangObject_0, ↓e_Arrays_copyOf_LjavalangObjectILjavalangClassLjavalangObject_1, ↓e_Arrays_copyOf_LjavalangObjectILjavalangClassLjavalangObject_3, ↓e_Arrays_copyOf_LjavalangObjectILjavalangClassLjavalangObject_6, ↓e_Arrays_copyOf_LjavalangObjectILjavalangClassLjavalangObject_7, ↓e_Arrays_copyOf_LjavalangObjectILjavalangClassLjavalangObject_10, ↓e_Arrays_copyOf_LjavalangObjectILjavalangClassLjavalangObject_13, ↓e_Arrays_copyOf_LjavalangObjectILjavalangClassLjavalangObject_24, ↓e_Arrays_copyOf_LjavalangObjectILjavalangClassLjavalangObject_25, ↓e_Arrays_copyOf_LjavalangObjectILjavalangClassLjavalangObject_26, ↓e_Arrays_copyOf_LjavalangObjectILjavalangClassLjavalangObject_27, ↓e_Arrays_copyOf_LjavalangObjectILjavalangClassLjavalangObject_28, ↓e_Arrays_copyOf_LjavalangObjectILjavalangClassLjavalangObject_29, ↓e_Arrays_copyOf_LjavalangObjectILjavalangClassLjavalangObject_30, ↓e_Arrays_copyOf_LjavalangObjectILjavalangClassLjavalangObject_31, ↓e_Arrays_copyOf_LjavalangObjectILjavalangClassLjavalangObject_32, ↓e_Arrays_copyOf_LjavalangObjectILjavalangClassLjavalangObject_35, ↓e_Arrays_copyOf_LjavalangObjectILjavalangClassLjavalangObject_38, ↓e_Arrays_copyOf_LjavalangObjectILjavalangClassLjavalangObject_39, not_true_eq_false, not_false_eq_true, one0, true_or, or_true, eq_self, bI_z, bI_nz, bI_o, b_ft, bI_1, bI_0, ↓kC_l, ↓kC_r, Option.toList_some, Option.toList_none, List.cons_append, List.nil_append, s1_0, s1_1i, s1_1r, s1_1w, s1_1n, s1_s, s2_0, s2_1i, s2_1r, s2_1w, s2_1n, s2_s, gI_sI, gI_sR, gI_sL, gI_sD, gR_sI, gR_sR, gR_sL, gR_sD, gL_sI, gL_sR, gL_sL, gL_sD, gD_sI, gD_sR, gD_sL, gD_sD, isK_sI, isK_sR, isK_sL, isK_sD, inL_sI, inL_sR, inL_sL, inL_sD, nx_sI, nx_sR, nx_sL, nx_sD, kd_sI, kd_sR, kd_sL, kd_sD, ln_sI, ln_sR, ln_sL, ln_sD, ↓reduceIte, c8_n, c8_1, c8_2, c8_3, c8_4, Nat.reduceAdd, L.k, L.r, L.s, two0, and_false, and_self, lnE_sI, eA0, eA, ofN, hk, hkS, ha0, or_true, okR_sI, hr, hh, kL, kA, kN9, isAny_sR, isAny_cR, isK_cR, inL_cR, hx1, inK, sL9, e1, e2, e3, e3', e4, e5, e6, e7, n9, nk, zn, p9, b9, m1, m2, hcp, hf, ii_succ]
theorem q_zaddG (F : Fs τ h) (L : Lst τ h l r E k c) (hc : k = c) (h10 : 10 ≤ c) (hc2 : c < 100000) (hn : nx h + 1 ≤ 580300) (hs : sc h + (c + c / 2) ≤ 5700000) {x : Nat} (hx : isAny h (some x) = true) (hE : E k x) (hr : ¬ r = 1) :
    ∃ h', (∀ Q, WP Gm j_ArrayList_add_LjavalangObjectZ 0 [some (.inr (.inl (some l))), some (.inr (.inl (some x)))] [] h Q = Q (.inl (some (.inl 1))) h') ∧ Ext τ h (upr τ (nx h) r) h' ∧ Fs (upr τ (nx h) r) h' ∧ Ag τ (fun s => s = 1 ∨ s = τ l ∨ s = r) h h' ∧ Lst (upr τ (nx h) r) h' l r E (k + 1) (c + c / 2) ∧ nx h' = nx h + 1 ∧ sc h' = sc h + (c + c / 2) := by
  obtain ⟨a, L1, d, he⟩ := id L
  have kl := L1.k
  have hll := isK_lt kl
  have tq : τ (nx h) = 1 := F.j (Nat.le_refl _)
  subst hc
  rcases d with d | ⟨d1, d2, d3, d4⟩
  · omega
  rcases L1.d with e | ⟨e1, e2, e3, e4, e5⟩
  · exact absurd e.1 d3
  have hal := isK_lt e1
  have hla : ¬ l = a := ne_k kl e1 (by decide)
  have X0 : Ext τ h (upr τ (nx h) r) (hN h 106 (k + k / 2) (k + k / 2)) := Ext.newr _ _ _ _ _ _
  generalize hg : sI (sR (sR (cR (hN (sI h l 0 (gI h l 0 + 1)) 106 (k + k / 2) (k + k / 2)) a (nx h) 0 0 k) l 1 (some (nx h))) (nx h) k (some x)) l 2 (ii (k + 1)) = g
  have X : Ext τ h (upr τ (nx h) r) g := by rw [← hg]; exact X0
  have ng : nx g = nx h + 1 := by rw [← hg]; rfl
  have sg : sc g = sc h + (k + k / 2) := by rw [← hg]; rfl
  have hD : eD = 1000000001 := rfl
  have lg : ln g (nx h) = k + k / 2 := by rw [← hg]; exact if_pos rfl
  have G0 : Ag τ (fun s => s = 1 ∨ s = τ l ∨ s = r) h (hN (sI h l 0 (gI h l 0 + 1)) 106 (k + k / 2) (k + k / 2)) := ((Ag.refl _ h).sI (Or.inr (Or.inl rfl))).hN (Or.inl tq)
  have G1 : Ag τ (fun s => s = 1 ∨ s = τ l ∨ s = r) h (cR (hN (sI h l 0 (gI h l 0 + 1)) 106 (k + k / 2) (k + k / 2)) a (nx h) 0 0 k) := fun z hz j => by
    rw [gR_cR, if_neg (fun w => hz (by rw [w.1]; exact Or.inl tq))]
    exact G0 z hz j
  refine ⟨g, fun Q => ?_, X, F.up r (by omega), ?_, ⟨nx h, ⟨X.k kl, ?_, ?_, by omega, Or.inr ⟨?_, by omega, by omega, by omega, by omega⟩⟩, Or.inr ⟨if_pos rfl, lg, by omega, by omega⟩, fun j hj => ?_⟩, ng, sg⟩
  · rw [← hg]
    exact q_laddG Q L1 e1 d2.symm h10 (by omega) e4 (ok_big hn hs) hx (fun i hi => by
      obtain ⟨f, f1, f2, -⟩ := he i hi
      rw [f1]
      exact f2)
  · rw [← hg]
    exact ((G1.sR (Or.inr (Or.inl rfl))).sR (Or.inl tq)).sI (Or.inr (Or.inl rfl))
  · rw [← hg, gR_sI, gR_sR, if_neg (by omega), gR_sR, if_pos ⟨rfl, rfl⟩]
  · rw [← hg, gI_sI, if_pos ⟨rfl, rfl⟩]
  · exact isK_of (by omega) (by rw [← hg]; exact if_pos rfl)
  · by_cases ej : j = k
    · subst ej
      exact ⟨x, by rw [← hg, gR_sI, gR_sR, if_pos ⟨rfl, rfl⟩], X.any hx, hE⟩
    · obtain ⟨f, f1, f2, f3⟩ := he j (by omega)
      refine ⟨f, ?_, X.any f2, f3⟩
      rw [← hg, gR_sI, gR_sR, if_neg (by omega), gR_sR, if_neg (by omega), gR_cR, if_pos ⟨rfl, by omega, by omega⟩, gR_hN, if_neg (by rw [nx_sI]; omega), gR_sI, show 0 + (j - 0) = j by omega]
      exact f1
end GROW
