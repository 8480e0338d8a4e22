/-! plist2: an element is added, without growing-/
theorem isK_lt {h : Hp} {a c : Nat} (hk : isK h a c = true) : a < nx h := (isK_spec hk).1
theorem isK_hN {h : Hp} {c m s b k : Nat} (hb : b < nx h) : isK (hN h c m s) b k = isK h b k := by
  unfold isK
  rw [kd_hN, nx_hN, if_neg (by omega), decide_eq_true (show b < nx h + 1 by omega), decide_eq_true hb]
theorem isK_new {h : Hp} {c m s : Nat} : isK (hN h c m s) (nx h) c = true := by
  unfold isK
  rw [kd_hN, nx_hN, if_pos rfl, decide_eq_true (show nx h < nx h + 1 by omega), decide_eq_true rfl]
  rfl
theorem inL_new {h : Hp} {c m s i : Nat} (hi : i < m) (hm : m < 2147483648) : inL (hN h c m s) (nx h) (ii i) = true := inL_n (by omega) (by rw [ln_hN, if_pos rfl]; exact hi)
theorem isAny_sI (h : Hp) (a k : Nat) (v : Int32) (x : Option Nat) : isAny (sI h a k v) x = isAny h x := by cases x <;> rfl
theorem isAny_sR (h : Hp) (a k : Nat) (v : Option Nat) (x : Option Nat) : isAny (sR h a k v) x = isAny h x := by cases x <;> rfl
theorem isAny_hN {h : Hp} {c m s : Nat} {x : Option Nat} (hx : isAny h x = true) : isAny (hN h c m s) x = true := by
  cases x with
  | none => rfl
  | some a =>
    unfold isAny at hx ⊢
    simp only [Bool.and_eq_true, decide_eq_true_eq] at hx ⊢
    rw [kd_hN, nx_hN, if_neg (by omega)]
    exact ⟨⟨by omega, hx.1.2⟩, hx.2⟩
theorem lnE_sI (h : Hp) (a k b : Nat) (v : Int32) : lnE (sI h a k v) b = lnE h b := rfl
theorem lnE_sR (h : Hp) (a k b : Nat) (v : Option Nat) : lnE (sR h a k v) b = lnE h b := rfl
theorem lnE_eD (h : Hp) : lnE h eD = 0 := if_pos rfl
theorem lnE_ne {h : Hp} {a : Nat} (ha : a ≠ eD) : lnE h a = ln h a := if_neg ha
theorem okR_sI (c s : Nat) (h : Hp) (a k : Nat) (v : Int32) (m t : Nat) : okR c s (sI h a k v) m t = okR c s h m t := rfl
theorem okR_sR (c s : Nat) (h : Hp) (a k : Nat) (v : Option Nat) (m t : Nat) : okR c s (sR h a k v) m t = okR c s h m t := rfl
theorem ofN (k : Nat) : Int32.ofNat k = ii k := rfl
theorem two0 : ((2 : Nat) = 0) = False := eq_false (by decide)
theorem oneN0 : ((1 : Nat) = 0) = False := eq_false (by decide)
theorem n10 : (10 : Int32).toNatClampNeg = 10 := by decide
theorem le10 : ((0 : Int32) ≤ 10) = True := eq_true (by decide)
theorem max10 : ((10 : Int32) < ii 1) = False := eq_false (by decide)
theorem gt00 : ((0 : Int32) < ii 0) = False := eq_false (by decide)
section LI2
variable {h : Hp} {l a k : Nat} (Q : MRes → Hp → Prop)
theorem q_laddA (L : Li h l a k) (hk : isK h a 106 = true) (hlt : k < ln h a) (hl : ln h a < 1000000) (hne : a ≠ eD) {x : Option Nat} (hx : isAny h x = true) :
    WP Gm j_ArrayList_add_LjavalangObjectZ 0 [some (.inr (.inl (some l))), some (.inr (.inl x))] [] h Q = Q (.inl (some (.inl 1))) (sI (sR (sI h l 0 (gI h l 0 + 1)) a k x) l 2 (ii (k + 1))) := by
  have hb := L.b
  have e3 : (ii k = ii (ln h a)) = False := by rw [ii_inj (by omega) (by omega)]; exact eq_false (by omega)
  simp only [↓e_ArrayList_add_LjavalangObjectZ_0, ↓e_ArrayList_add_LjavalangObjectZ_1, ↓e_ArrayList_add_LjavalangObjectZ_2, ↓e_ArrayList_add_LjavalangObjectZ_5, ↓e_ArrayList_add_LjavalangObjectZ_6, ↓e_ArrayList_add_LjavalangObjectZ_7, ↓e_ArrayList_add_LjavalangObjectZ_10, ↓e_ArrayList_add_LjavalangObjectZ_11, ↓e_ArrayList_add_LjavalangObjectZ_12, ↓e_ArrayList_add_LjavalangObjectZ_13, ↓e_ArrayList_add_LjavalangObjectZ_16, ↓e_ArrayList_add_LjavalangObjectZ_17, ↓e_ArrayList_add_LjavalangObjectZ_20, ↓e_ArrayList_add_LjavalangObjectZ_23, ↓e_ArrayList_add_LjavalangObjectZ_24, ↓e_ArrayList_add_LjavalangObjectLjavalangObjectIV_0, ↓e_ArrayList_add_LjavalangObjectLjavalangObjectIV_1, ↓e_ArrayList_add_LjavalangObjectLjavalangObjectIV_2, ↓e_ArrayList_add_LjavalangObjectLjavalangObjectIV_3, ↓e_ArrayList_add_LjavalangObjectLjavalangObjectIV_6, ↓e_ArrayList_add_LjavalangObjectLjavalangObjectIV_7, ↓e_ArrayList_add_LjavalangObjectLjavalangObjectIV_10, ↓e_ArrayList_add_LjavalangObjectLjavalangObjectIV_11, ↓e_ArrayList_add_LjavalangObjectLjavalangObjectIV_12, ↓e_ArrayList_add_LjavalangObjectLjavalangObjectIV_13, ↓e_ArrayList_add_LjavalangObjectLjavalangObjectIV_14, ↓e_ArrayList_add_LjavalangObjectLjavalangObjectIV_15, ↓e_ArrayList_add_LjavalangObjectLjavalangObjectIV_16, ↓e_ArrayList_add_LjavalangObjectLjavalangObjectIV_17, ↓e_ArrayList_add_LjavalangObjectLjavalangObjectIV_18, ↓e_ArrayList_add_LjavalangObjectLjavalangObjectIV_19, ↓e_ArrayList_add_LjavalangObjectLjavalangObjectIV_22, not_true_eq_false, not_false_eq_true, one0, true_or, or_true, eq_self, bI_z, bI_nz, bI_o, b_ft, bI_1, bI_0, ↓kC_l, ↓kC_r, Option.toList_some, Option.toList_none, List.cons_append, List.nil_append, s1_0, s1_1i, s1_1r, s1_1w, s1_1n, s1_s, s2_0, s2_1i, s2_1r, s2_1w, s2_1n, s2_s, gI_sI, gI_sR, gI_sL, gI_sD, gR_sI, gR_sR, gR_sL, gR_sD, gL_sI, gL_sR, gL_sL, gL_sD, gD_sI, gD_sR, gD_sL, gD_sD, isK_sI, isK_sR, isK_sL, isK_sD, inL_sI, inL_sR, inL_sL, inL_sD, nx_sI, nx_sR, nx_sL, nx_sD, kd_sI, kd_sR, kd_sL, kd_sD, ln_sI, ln_sR, ln_sL, ln_sD, ↓reduceIte, c8_n, c8_1, c8_2, c8_3, c8_4, Nat.reduceAdd, L.k, L.r, L.s, two0, and_false, lnE_sI, lnE_ne hne, ofN, e3, hk, or_true, isAny_sI, hx, inL_n (show k < 2147483648 by omega) hlt, ii_nat (show k < 2147483648 by omega), ii_succ]
theorem q_laddE (L : Li h l eD 0) (hr : okR cM sM h 1 10 = true) {x : Option Nat} (hx : isAny h x = true) :
    WP Gm j_ArrayList_add_LjavalangObjectZ 0 [some (.inr (.inl (some l))), some (.inr (.inl x))] [] h Q = Q (.inl (some (.inl 1))) (sI (sR (sR (hN (sI h l 0 (gI h l 0 + 1)) 106 10 10) l 1 (some (nx h))) (nx h) 0 x) l 2 (ii 1)) := by
  have kL : isK (hN (sI h l 0 (gI h l 0 + 1)) 106 10 10) l kc_ArrayList = true := by rw [isK_hN (isK_lt (by rw [isK_sI]; exact L.k)), isK_sI]; exact L.k
  have kN9 : isK (hN (sI h l 0 (gI h l 0 + 1)) 106 10 10) (nx h) 106 = true := isK_new
  have iN : inL (hN (sI h l 0 (gI h l 0 + 1)) 106 10 10) (nx h) (ii 0) = true := inL_new (by omega) (by omega)
  have hx2 : isAny (hN (sI h l 0 (gI h l 0 + 1)) 106 10 10) x = true := isAny_hN (by rw [isAny_sI]; exact hx)
  have nl : (l = nx h) = False := eq_false (Nat.ne_of_lt (isK_lt L.k))
  have nS : gI (hN (sI h l 0 (gI h l 0 + 1)) 106 10 10) l 2 = ii 0 := by rw [gI_hN, nx_sI, if_neg (Nat.ne_of_lt (isK_lt L.k)), gI_sI, if_neg (by simp)]; exact L.s
  have hD : ∀ g : Hp, eD = eD ∨ isK g eD 106 = true := fun _ => Or.inl rfl
  have e2 : ∀ (g : Hp) (ls : Lo) (st : Sk) (Q2 : MRes → Hp → Prop), WP Gm j_ArrayList_add_LjavalangObjectLjavalangObjectIV 2 ls (.inr (.inl (some eD)) :: st) g Q2 = WP Gm j_ArrayList_add_LjavalangObjectLjavalangObjectIV 3 ls (.inl (ii 0) :: st) g Q2 := fun g ls st Q2 => by
    rw [e_ArrayList_add_LjavalangObjectLjavalangObjectIV_2 _ _ _ _ _ (hD g), lnE_eD]
    rfl
  have e3 : ∀ (g : Hp) (ls : Lo) (st : Sk) (Q2 : MRes → Hp → Prop), WP Gm j_ArrayList_grow_ILjavalangObject 4 ls (.inr (.inl (some eD)) :: st) g Q2 = WP Gm j_ArrayList_grow_ILjavalangObject 5 ls (.inl (ii 0) :: st) g Q2 := fun g ls st Q2 => by
    rw [e_ArrayList_grow_ILjavalangObject_4 _ _ _ _ _ (hD g), lnE_eD]
    rfl
  simp only [↓e2, ↓e3, ↓e_ArrayList_add_LjavalangObjectZ_0, ↓e_ArrayList_add_LjavalangObjectZ_1, ↓e_ArrayList_add_LjavalangObjectZ_2, ↓e_ArrayList_add_LjavalangObjectZ_5, ↓e_ArrayList_add_LjavalangObjectZ_6, ↓e_ArrayList_add_LjavalangObjectZ_7, ↓e_ArrayList_add_LjavalangObjectZ_10, ↓e_ArrayList_add_LjavalangObjectZ_11, ↓e_ArrayList_add_LjavalangObjectZ_12, ↓e_ArrayList_add_LjavalangObjectZ_13, ↓e_ArrayList_add_LjavalangObjectZ_16, ↓e_ArrayList_add_LjavalangObjectZ_17, ↓e_ArrayList_add_LjavalangObjectZ_20, ↓e_ArrayList_add_LjavalangObjectZ_23, ↓e_ArrayList_add_LjavalangObjectZ_24, ↓e_ArrayList_add_LjavalangObjectLjavalangObjectIV_0, ↓e_ArrayList_add_LjavalangObjectLjavalangObjectIV_1, ↓e_ArrayList_add_LjavalangObjectLjavalangObjectIV_2, ↓e_ArrayList_add_LjavalangObjectLjavalangObjectIV_3, ↓e_ArrayList_add_LjavalangObjectLjavalangObjectIV_6, ↓e_ArrayList_add_LjavalangObjectLjavalangObjectIV_7, ↓e_ArrayList_add_LjavalangObjectLjavalangObjectIV_10, ↓e_ArrayList_add_LjavalangObjectLjavalangObjectIV_11, ↓e_ArrayList_add_LjavalangObjectLjavalangObjectIV_12, ↓e_ArrayList_add_LjavalangObjectLjavalangObjectIV_13, ↓e_ArrayList_add_LjavalangObjectLjavalangObjectIV_14, ↓e_ArrayList_add_LjavalangObjectLjavalangObjectIV_15, ↓e_ArrayList_add_LjavalangObjectLjavalangObjectIV_16, ↓e_ArrayList_add_LjavalangObjectLjavalangObjectIV_17, ↓e_ArrayList_add_LjavalangObjectLjavalangObjectIV_18, ↓e_ArrayList_add_LjavalangObjectLjavalangObjectIV_19, ↓e_ArrayList_add_LjavalangObjectLjavalangObjectIV_22, ↓e_ArrayList_grow_LjavalangObject_0, ↓e_ArrayList_grow_LjavalangObject_1, ↓e_ArrayList_grow_LjavalangObject_2, ↓e_ArrayList_grow_LjavalangObject_5, ↓e_ArrayList_grow_LjavalangObject_6, ↓e_ArrayList_grow_LjavalangObject_7, ↓e_ArrayList_grow_LjavalangObject_10, ↓e_ArrayList_grow_ILjavalangObject_0, ↓e_ArrayList_grow_ILjavalangObject_1, ↓e_ArrayList_grow_ILjavalangObject_4, ↓e_ArrayList_grow_ILjavalangObject_5, ↓e_ArrayList_grow_ILjavalangObject_6, ↓e_ArrayList_grow_ILjavalangObject_7, ↓e_ArrayList_grow_ILjavalangObject_10, ↓e_ArrayList_grow_ILjavalangObject_11, ↓e_ArrayList_grow_ILjavalangObject_14, ↓e_ArrayList_grow_ILjavalangObject_17, ↓e_ArrayList_grow_ILjavalangObject_20, ↓e_ArrayList_grow_ILjavalangObject_21, ↓e_ArrayList_grow_ILjavalangObject_22, ↓e_ArrayList_grow_ILjavalangObject_23, ↓e_ArrayList_grow_ILjavalangObject_24, ↓e_ArrayList_grow_ILjavalangObject_25, ↓e_ArrayList_grow_ILjavalangObject_26, ↓e_ArrayList_grow_ILjavalangObject_27, ↓e_ArrayList_grow_ILjavalangObject_30, ↓e_ArrayList_grow_ILjavalangObject_31, ↓e_ArrayList_grow_ILjavalangObject_32, ↓e_ArrayList_grow_ILjavalangObject_33, ↓e_ArrayList_grow_ILjavalangObject_36, ↓e_ArrayList_grow_ILjavalangObject_37, ↓e_ArrayList_grow_ILjavalangObject_40, ↓e_ArrayList_grow_ILjavalangObject_41, ↓e_ArrayList_grow_ILjavalangObject_44, ↓e_ArrayList_grow_ILjavalangObject_45, ↓e_ArrayList_grow_ILjavalangObject_46, ↓e_ArrayList_grow_ILjavalangObject_48, ↓e_ArrayList_grow_ILjavalangObject_49, ↓e_ArrayList_grow_ILjavalangObject_52, ↓e_ArrayList_grow_ILjavalangObject_55, ↓e_ArrayList_grow_ILjavalangObject_56, ↓e_ArrayList_grow_ILjavalangObject_59, ↓e_Math_max_0, ↓e_Math_max_1, ↓e_Math_max_2, ↓e_Math_max_5, ↓e_Math_max_6, ↓e_Math_max_9, ↓e_Math_max_10, not_true_eq_false, not_false_eq_true, one0, true_or, or_true, eq_self, bI_z, bI_nz, bI_o, b_ft, bI_1, bI_0, ↓kC_l, ↓kC_r, Option.toList_some, Option.toList_none, List.cons_append, List.nil_append, s1_0, s1_1i, s1_1r, s1_1w, s1_1n, s1_s, s2_0, s2_1i, s2_1r, s2_1w, s2_1n, s2_s, gI_sI, gI_sR, gI_sL, gI_sD, gR_sI, gR_sR, gR_sL, gR_sD, gL_sI, gL_sR, gL_sL, gL_sD, gD_sI, gD_sR, gD_sL, gD_sD, isK_sI, isK_sR, isK_sL, isK_sD, inL_sI, inL_sR, inL_sL, inL_sD, nx_sI, nx_sR, nx_sL, nx_sD, kd_sI, kd_sR, kd_sL, kd_sD, ln_sI, ln_sR, ln_sL, ln_sD, ↓reduceIte, c8_n, c8_1, c8_2, c8_3, c8_4, Nat.reduceAdd, L.k, L.r, L.s, two0, and_false, lnE_sI, lnE_eD, ofN, gt00, max10, n10, le10, Nat.reduceLeDiff, and_self, okR_sI, hr, kL, kN9, isAny_sR, hx2, iN, nS, ii_nat (show 0 < 2147483648 by omega), ii_succ]
theorem q_liter (L : Li h l a k) (hr : okR cM sM h 1 4 = true) :
    WP Gm j_ArrayList_iterator 0 [some (.inr (.inl (some l)))] [] h Q = Q (.inl (some (.inr (.inl (some (nx h)))))) (sI (sI (sR (hN h kc_Itr 0 4) (nx h) 3 (some l)) (nx h) 1 (-1)) (nx h) 2 (gI h l 0)) := by
  have kI : isK (hN h kc_Itr 0 4) (nx h) kc_Itr = true := isK_new
  have kL : isK (hN h kc_Itr 0 4) l kc_ArrayList = true := by rw [isK_hN (isK_lt L.k)]; exact L.k
  have hne : (l = nx h) = False := eq_false (Nat.ne_of_lt (isK_lt L.k))
  have gl : gI (hN h kc_Itr 0 4) l 0 = gI h l 0 := by rw [gI_hN, if_neg (Nat.ne_of_lt (isK_lt L.k))]
  simp only [↓e_ArrayList_iterator_0, ↓e_ArrayList_iterator_3, ↓e_ArrayList_iterator_4, ↓e_ArrayList_iterator_5, ↓e_ArrayList_iterator_8, ↓e_Itr_init_0, ↓e_Itr_init_1, ↓e_Itr_init_2, ↓e_Itr_init_5, ↓e_Itr_init_6, ↓e_Itr_init_9, ↓e_Itr_init_10, ↓e_Itr_init_11, ↓e_Itr_init_14, ↓e_Itr_init_15, ↓e_Itr_init_16, ↓e_Itr_init_19, ↓e_Itr_init_22, ↓e_Itr_init_25, not_true_eq_false, not_false_eq_true, one0, true_or, or_true, eq_self, bI_z, bI_nz, bI_o, b_ft, bI_1, bI_0, ↓kC_l, ↓kC_r, Option.toList_some, Option.toList_none, List.cons_append, List.nil_append, s1_0, s1_1i, s1_1r, s1_1w, s1_1n, s1_s, s2_0, s2_1i, s2_1r, s2_1w, s2_1n, s2_s, gI_sI, gI_sR, gI_sL, gI_sD, gR_sI, gR_sR, gR_sL, gR_sD, gL_sI, gL_sR, gL_sL, gL_sD, gD_sI, gD_sR, gD_sL, gD_sD, isK_sI, isK_sR, isK_sL, isK_sD, inL_sI, inL_sR, inL_sL, inL_sD, nx_sI, nx_sR, nx_sL, nx_sD, kd_sI, kd_sR, kd_sL, kd_sD, ln_sI, ln_sR, ln_sL, ln_sD, ↓reduceIte, c8_n, c8_1, c8_2, c8_3, c8_4, Nat.reduceAdd, hr, kI, kL, hne, false_and, and_self, gl]
end LI2
