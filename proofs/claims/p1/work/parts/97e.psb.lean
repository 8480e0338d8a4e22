/-! psb: a StringBuilder takes chars and becomes a String; row on both sides -/
/-- what lies below id b is as it was -/
def Lo9 (b : Nat) (h h' : Hp) : Prop := (∀ a k, a < b → gI h' a k = gI h a k ∧ gR h' a k = gR h a k ∧ gL h' a k = gL h a k) ∧ (∀ a, a < b → kd h' a = kd h a ∧ ln h' a = ln h a) ∧ nx h ≤ nx h'
theorem Lo9.refl (b : Nat) (h : Hp) : Lo9 b h h := ⟨fun _ _ _ => ⟨rfl, rfl, rfl⟩, fun _ _ => ⟨rfl, rfl⟩, Nat.le_refl _⟩
theorem Lo9.trans {b : Nat} {h h1 h2 : Hp} (x : Lo9 b h h1) (y : Lo9 b h1 h2) : Lo9 b h h2 := ⟨fun a k q => by
  obtain ⟨a1, a2, a3⟩ := x.1 a k q
  obtain ⟨b1, b2, b3⟩ := y.1 a k q
  exact ⟨b1.trans a1, b2.trans a2, b3.trans a3⟩, fun a q => ⟨(y.2.1 a q).1.trans (x.2.1 a q).1, (y.2.1 a q).2.trans (x.2.1 a q).2⟩, Nat.le_trans x.2.2 y.2.2⟩
theorem Lo9.sI {b : Nat} {h h1 : Hp} (x : Lo9 b h h1) {a k : Nat} {v : Int32} (ha : b ≤ a) : Lo9 b h (sI h1 a k v) := ⟨fun z j q => by
  rw [gI_sI, gR_sI, gL_sI, if_neg (by omega)]
  exact x.1 z j q, x.2⟩
theorem Lo9.sR {b : Nat} {h h1 : Hp} (x : Lo9 b h h1) {a k : Nat} {v : Option Nat} (ha : b ≤ a) : Lo9 b h (sR h1 a k v) := ⟨fun z j q => by
  rw [gI_sR, gR_sR, gL_sR, if_neg (by omega)]
  exact x.1 z j q, x.2⟩
theorem Lo9.hN {b : Nat} {h h1 : Hp} (x : Lo9 b h h1) {c m s : Nat} (ha : b ≤ nx h1) : Lo9 b h (hN h1 c m s) := ⟨fun z j q => by
  rw [gI_hN, gR_hN, gL_hN, if_neg (by omega), if_neg (by omega), if_neg (by omega)]
  exact x.1 z j q, fun z q => by
  rw [kd_hN, ln_hN, if_neg (by omega), if_neg (by omega)]
  exact x.2.1 z q, by rw [nx_hN]; exact Nat.le_succ_of_le x.2.2⟩
theorem Lo9.cI {b : Nat} {h h1 : Hp} (x : Lo9 b h h1) {a d sp dp n : Nat} (ha : b ≤ d) : Lo9 b h (cI h1 a d sp dp n) := ⟨fun z j q => by
  rw [gI_cI, if_neg (by omega)]
  exact x.1 z j q, x.2⟩
theorem Lo9.k {b : Nat} {h h1 : Hp} (x : Lo9 b h h1) {a c : Nat} (hk : isK h a c = true) (hb : a < b) : isK h1 a c = true := by
  obtain ⟨k1, k2⟩ := isK_spec hk
  exact isK_of (Nat.lt_of_lt_of_le k1 x.2.2) (by rw [(x.2.1 a hb).1]; exact k2)
/-- a StringBuilder q with c chars in the row q + 1 -/
def Sb (h : Hp) (q c : Nat) : Prop := isK h q kc_StringBuilder = true ∧ gR h q 0 = some (q + 1) ∧ gI h q 1 = 0 ∧ gI h q 3 = ii c ∧ isK h (q + 1) 105 = true ∧ ln h (q + 1) = 16 ∧ ∀ j, j < c → bf (gI h (q + 1) j) = true
section SBS
variable {h : Hp} {q c : Nat}
theorem q_sbInit (hk : isK h q kc_StringBuilder = true) (hq : nx h = q + 1) (z3 : gI h q 3 = 0) (hn : nx h + 10 ≤ 580300) (hs : sc h + 100 ≤ 5700000) : ∃ g, (∀ Q, WP Gm j_StringBuilder_init 0 [some (.inr (.inl (some q)))] [] h Q = Q (.inl none) g) ∧ Sb g q 0 ∧ Lo9 q h g ∧ nx g = q + 2 ∧ sc g = sc h + 16 := by
  have hr : okR cM sM h 1 16 = true := ok_big (by omega) (by omega)
  have z16 : (16 : Int32).toNatClampNeg = 16 := by decide
  have l16 : ((0 : Int32) ≤ 16) = True := eq_true (by decide)
  generalize hg0 : hN h 105 16 16 = g0
  have k0 : isK g0 q kc_StringBuilder = true := by rw [← hg0, isK_hN (isK_lt hk)]; exact hk
  have kb : isK g0 (q + 1) 105 = true := by rw [← hg0, ← hq]; exact isK_new
  have lb : ln g0 (q + 1) = 16 := by rw [← hg0, ← hq]; exact if_pos rfl
  have n0 : nx g0 = q + 2 := by rw [← hg0, nx_hN, hq]
  refine ⟨sI (sR g0 q 0 (some (q + 1))) q 1 0, fun Q => ?_, ⟨k0, ?_, ?_, ?_, kb, lb, fun j hj => absurd hj (by omega)⟩, ?_, n0, by rw [← hg0]; rfl⟩
  · simp only [↓e_StringBuilder_init_0, ↓e_StringBuilder_init_1, ↓e_StringBuilder_init_3, ↓e_StringBuilder_init_6, ↓e_AbstractStringBuilder_init_0, ↓e_AbstractStringBuilder_init_1, ↓e_AbstractStringBuilder_init_4, ↓e_AbstractStringBuilder_init_7, ↓e_AbstractStringBuilder_init_10, ↓e_AbstractStringBuilder_init_11, ↓e_AbstractStringBuilder_init_12, ↓e_AbstractStringBuilder_init_14, ↓e_AbstractStringBuilder_init_17, ↓e_AbstractStringBuilder_init_18, ↓e_AbstractStringBuilder_init_19, ↓e_AbstractStringBuilder_init_22, ↓e_AbstractStringBuilder_init_25, ↓e_AbstractStringBuilder_init_26, ↓e_AbstractStringBuilder_init_38, not_true_eq_false, not_false_eq_true, one0, true_or, or_true, eq_self, bI_z, bI_nz, bI_o, b_ft, bI_1, bI_0, ↓kC_l, ↓kC_r, Option.toList_some, Option.toList_none, List.cons_append, List.nil_append, s1_0, s1_1i, s1_1r, s1_1w, s1_1n, s1_s, s2_0, s2_1i, s2_1r, s2_1w, s2_1n, s2_s, gI_sI, gI_sR, gI_sL, gI_sD, gR_sI, gR_sR, gR_sL, gR_sD, gL_sI, gL_sR, gL_sL, gL_sD, gD_sI, gD_sR, gD_sL, gD_sD, isK_sI, isK_sR, isK_sL, isK_sD, inL_sI, inL_sR, inL_sL, inL_sD, nx_sI, nx_sR, nx_sL, nx_sD, kd_sI, kd_sR, kd_sL, kd_sD, ln_sI, ln_sR, ln_sL, ln_sD, ↓reduceIte, c8_n, c8_1, c8_2, c8_3, c8_4, Nat.reduceAdd, hk, z16, l16, Nat.reduceLeDiff, and_self, hr, hq, hg0, k0]
  · rw [gR_sI, gR_sR, if_pos ⟨rfl, rfl⟩]
  · rw [gI_sI, if_pos ⟨rfl, rfl⟩]
  · rw [gI_sI, if_neg (by omega), gI_sR, ← hg0, gI_hN, if_neg (by omega)]; exact z3
  · rw [← hg0]
    exact (((Lo9.refl q h).hN (by omega)).sR (Nat.le_refl _)).sI (Nat.le_refl _)
/-- the chars that row writes -/
def Chr (x : Int32) : Prop := x = 84 ∨ x = 119 ∨ x = 46 ∨ x = 113
theorem Chr.f {x : Int32} (hx : Chr x) : ((255 : Int32) < x) = False ∧ x.toInt8.toInt32 = x ∧ bf x = true ∧ x.toUInt32.toUInt16.toUInt32.toInt32 = x := by
  rcases hx with rfl | rfl | rfl | rfl
  · exact ⟨eq_false (by decide), by decide, by decide, by decide⟩
  · exact ⟨eq_false (by decide), by decide, by decide, by decide⟩
  · exact ⟨eq_false (by decide), by decide, by decide, by decide⟩
  · exact ⟨eq_false (by decide), by decide, by decide, by decide⟩
theorem q_sbAppend (S : Sb h q c) (hc : c < 9) {x : Int32} (hx : Chr x) : (∀ Q, WP Gm j_StringBuilder_append 0 [some (.inr (.inl (some q))), some (.inl x)] [] h Q = Q (.inl (some (.inr (.inl (some q))))) (sI (sI h q 3 (ii (c + 1))) (q + 1) c x)) ∧ Sb (sI (sI h q 3 (ii (c + 1))) (q + 1) c x) q (c + 1) := by
  obtain ⟨s1, s2, s3, s4, s5, s6, s7⟩ := S
  obtain ⟨f1, f2, f3, f4⟩ := hx.f
  have e16 : Int32.ofNat 16 >>> ((0 : Int32) &&& 31) = 16 := by decide
  have ecap : (ii (c + 1) - 16 ≤ (0 : Int32)) = True := by
    have : ∀ c, c < 9 → ii (c + 1) - 16 ≤ (0 : Int32) := by decide
    exact eq_true (this c hc)
  have ic : inL h (q + 1) (ii c) = true := inL_n (by omega) (by omega)
  refine ⟨fun Q => ?_, s1, s2, ?_, ?_, s5, s6, fun j hj => ?_⟩
  · simp only [↓e_StringBuilder_append_0, ↓e_StringBuilder_append_1, ↓e_StringBuilder_append_2, ↓e_StringBuilder_append_5, ↓e_StringBuilder_append_6, ↓e_StringBuilder_append_7, ↓e_AbstractStringBuilder_append_0, ↓e_AbstractStringBuilder_append_1, ↓e_AbstractStringBuilder_append_2, ↓e_AbstractStringBuilder_append_5, ↓e_AbstractStringBuilder_append_6, ↓e_AbstractStringBuilder_append_7, ↓e_AbstractStringBuilder_append_10, ↓e_AbstractStringBuilder_append_11, ↓e_AbstractStringBuilder_append_14, ↓e_AbstractStringBuilder_append_17, ↓e_AbstractStringBuilder_append_18, ↓e_AbstractStringBuilder_append_21, ↓e_AbstractStringBuilder_append_24, ↓e_AbstractStringBuilder_append_25, ↓e_AbstractStringBuilder_append_28, ↓e_AbstractStringBuilder_append_29, ↓e_AbstractStringBuilder_append_30, ↓e_AbstractStringBuilder_append_33, ↓e_AbstractStringBuilder_append_34, ↓e_AbstractStringBuilder_append_35, ↓e_AbstractStringBuilder_append_36, ↓e_AbstractStringBuilder_append_39, ↓e_AbstractStringBuilder_append_40, ↓e_AbstractStringBuilder_append_41, ↓e_AbstractStringBuilder_append_42, ↓e_AbstractStringBuilder_append_45, ↓e_AbstractStringBuilder_append_46, ↓e_AbstractStringBuilder_append_49, ↓e_AbstractStringBuilder_append_52, ↓e_AbstractStringBuilder_append_56, ↓e_AbstractStringBuilder_append_57, ↓e_AbstractStringBuilder_append_60, ↓e_AbstractStringBuilder_append_61, ↓e_AbstractStringBuilder_append_62, ↓e_AbstractStringBuilder_append_65, ↓e_AbstractStringBuilder_append_66, ↓e_AbstractStringBuilder_append_67, ↓e_AbstractStringBuilder_append_68, ↓e_AbstractStringBuilder_append_71, ↓e_AbstractStringBuilder_append_75, ↓e_AbstractStringBuilder_append_76, ↓e_AbstractStringBuilder_ensureCapacityInternal_0, ↓e_AbstractStringBuilder_ensureCapacityInternal_1, ↓e_AbstractStringBuilder_ensureCapacityInternal_4, ↓e_AbstractStringBuilder_ensureCapacityInternal_5, ↓e_AbstractStringBuilder_ensureCapacityInternal_6, ↓e_AbstractStringBuilder_ensureCapacityInternal_9, ↓e_AbstractStringBuilder_ensureCapacityInternal_10, ↓e_AbstractStringBuilder_ensureCapacityInternal_11, ↓e_AbstractStringBuilder_ensureCapacityInternal_12, ↓e_AbstractStringBuilder_ensureCapacityInternal_13, ↓e_AbstractStringBuilder_ensureCapacityInternal_14, ↓e_AbstractStringBuilder_ensureCapacityInternal_17, ↓e_AbstractStringBuilder_ensureCapacityInternal_18, ↓e_AbstractStringBuilder_ensureCapacityInternal_19, ↓e_AbstractStringBuilder_ensureCapacityInternal_22, ↓e_AbstractStringBuilder_ensureCapacityInternal_23, ↓e_AbstractStringBuilder_ensureCapacityInternal_38, ↓e_AbstractStringBuilder_isLatin1_0, ↓e_AbstractStringBuilder_isLatin1_3, ↓e_AbstractStringBuilder_isLatin1_6, ↓e_AbstractStringBuilder_isLatin1_7, ↓e_AbstractStringBuilder_isLatin1_10, ↓e_AbstractStringBuilder_isLatin1_13, ↓e_AbstractStringBuilder_isLatin1_14, ↓e_AbstractStringBuilder_isLatin1_17, ↓e_AbstractStringBuilder_isLatin1_18, ↓e_StringLatin1_canEncode_0, ↓e_StringLatin1_canEncode_1, ↓e_StringLatin1_canEncode_4, ↓e_StringLatin1_canEncode_7, ↓e_StringLatin1_canEncode_8, ↓e_StringLatin1_canEncode_11, ↓e_StringLatin1_canEncode_12, ↓f_StringBuilder_append_2, ↓f_AbstractStringBuilder_append_18, not_true_eq_false, not_false_eq_true, one0, true_or, or_true, eq_self, bI_z, bI_nz, bI_o, b_ft, bI_1, bI_0, ↓kC_l, ↓kC_r, Option.toList_some, Option.toList_none, List.cons_append, List.nil_append, s1_0, s1_1i, s1_1r, s1_1w, s1_1n, s1_s, s2_0, s2_1i, s2_1r, s2_1w, s2_1n, s2_s, gI_sI, gI_sR, gI_sL, gI_sD, gR_sI, gR_sR, gR_sL, gR_sD, gL_sI, gL_sR, gL_sL, gL_sD, gD_sI, gD_sR, gD_sL, gD_sD, isK_sI, isK_sR, isK_sL, isK_sD, inL_sI, inL_sR, inL_sL, inL_sD, nx_sI, nx_sR, nx_sL, nx_sD, kd_sI, kd_sR, kd_sL, kd_sD, ln_sI, ln_sR, ln_sL, ln_sD, ↓reduceIte, c8_n, c8_1, c8_2, c8_3, c8_4, Nat.reduceAdd, s1, s2, s3, s4, s5, s6, e16, ii_succ, ecap, f1, f2, ic, ii_nat (show c < 2147483648 by omega)]
  · rw [gI_sI, if_neg (by omega), gI_sI, if_neg (by omega)]; exact s3
  · rw [gI_sI, if_neg (by omega), gI_sI, if_pos ⟨rfl, rfl⟩]
  · rw [gI_sI]
    by_cases e : j = c
    · rw [if_pos ⟨rfl, e⟩]; exact f3
    · rw [if_neg (fun w => e w.2), gI_sI, if_neg (by omega)]
      exact s7 j (by omega)
theorem q_sbString (S : Sb h q c) (hc : c < 10) (hn : nx h + 10 ≤ 580300) (hs : sc h + 100 ≤ 5700000) : ∃ (r : Nat) (g : Hp), (∀ Q, WP Gm j_StringBuilder_toString 0 [some (.inr (.inl (some q)))] [] h Q = Q (.inl (some (.inr (.inl (some r))))) g) ∧ Lo9 (nx h) h g ∧ nx g = nx h + 2 ∧ sc g = sc h + 4 + c := by
  obtain ⟨s1, s2, s3, s4, s5, s6, s7⟩ := S
  have q1 := isK_lt s1
  have q2 := isK_lt s5
  have hr : okR cM sM h 1 4 = true := ok_big (by omega) (by omega)
  generalize hr0 : nx h = r at *
  generalize hg0 : hN h kc_String 0 4 = g0
  have kr : isK g0 r kc_String = true := by rw [← hg0, ← hr0]; exact isK_new
  have ks : isK g0 q kc_StringBuilder = true := by rw [← hg0, isK_hN (by omega)]; exact s1
  have kb : isK g0 (q + 1) 105 = true := by rw [← hg0, isK_hN (by omega)]; exact s5
  have lb : ln g0 (q + 1) = 16 := by rw [← hg0, ln_hN, if_neg (by omega)]; exact s6
  have r2 : gR g0 q 0 = some (q + 1) := by rw [← hg0, gR_hN, if_neg (by omega)]; exact s2
  have r3 : gI g0 q 1 = 0 := by rw [← hg0, gI_hN, if_neg (by omega)]; exact s3
  have r4 : gI g0 q 3 = ii c := by rw [← hg0, gI_hN, if_neg (by omega)]; exact s4
  have r7 : ∀ j, j < c → bf (gI g0 (q + 1) j) = true := fun j hj => by rw [← hg0, gI_hN, if_neg (by omega)]; exact s7 j hj
  have n0 : nx g0 = r + 1 := by rw [← hg0, nx_hN, hr0]
  have s0 : sc g0 = sc h + 4 := by rw [← hg0]; rfl
  generalize hg1 : sI g0 r 1 0 = g1
  have n1 : nx g1 = r + 1 := by rw [← hg1]; exact n0
  have nc : (ii c).toNatClampNeg = c := ii_nat (by omega)
  have zn : (0 : Int32).toNatClampNeg = 0 := by decide
  have hr1 : okR cM sM g1 1 c = true := ok_big (by omega) (by rw [← hg1]; show sc g0 + c ≤ _; omega)
  generalize hg2 : hN g1 105 c c = g2
  have kb1 : isK g1 (q + 1) 105 = true := by rw [← hg1]; exact kb
  have lb1 : ln g1 (q + 1) = 16 := by rw [← hg1]; exact lb
  have kb2 : isK g2 (q + 1) 105 = true := by rw [← hg2, isK_hN (by omega)]; exact kb1
  have lb2 : ln g2 (q + 1) = 16 := by rw [← hg2, ln_hN, if_neg (by omega)]; exact lb1
  have kd2 : isK g2 (r + 1) 105 = true := by rw [← hg2, ← n1]; exact isK_new
  have ld2 : ln g2 (r + 1) = c := by rw [← hg2, ← n1]; exact if_pos rfl
  have kr2 : isK g2 r kc_String = true := by rw [← hg2, isK_hN (by omega), ← hg1]; exact kr
  have e16 : ∀ c, c < 10 → (ii c = Int32.ofNat 16) = False ∧ (ii c - 0 = ii c) ∧ ((0 : Int32) ≤ ii c) ∧ (Int32.ofNat 16 - 0 = 16) ∧ (((16 : Int32) ≤ ii c) = False) ∧ ((ii c ≤ (0 : Int32)) = (c = 0)) := fun c hc => by
    have a1 : ∀ c, c < 10 → ¬ ii c = Int32.ofNat 16 := by decide
    have a2 : ∀ c, c < 10 → ii c - 0 = ii c := by decide
    have a3 : ∀ c, c < 10 → (0 : Int32) ≤ ii c := by decide
    have a5 : ∀ c, c < 10 → ¬ (16 : Int32) ≤ ii c := by decide
    exact ⟨eq_false (a1 c hc), a2 c hc, a3 c hc, by decide, eq_false (a5 c hc), by rw [z_ii, ii_le (by omega) (by omega)]; exact propext ⟨fun w => by omega, fun w => by omega⟩⟩
  obtain ⟨x1, x2, x3, x4, x5, x6⟩ := e16 c hc
  have x3' : ((0 : Int32) ≤ ii c) = True := eq_true x3
  have bc : (c ≤ 1000000) = True := eq_true (by omega)
  have hcp : cpOK g2 5 (q + 1) (r + 1) 0 0 (ii c) [] = true := by
    unfold cpOK
    rw [kb2, kd2, zn, nc, lb2, ld2]
    show ((true && true && (decide ((0 : Int32) ≤ 0) && decide ((0 : Int32) ≤ 0) && decide ((0 : Int32) ≤ ii c))) && (decide (0 + c ≤ 16) && decide (0 + c ≤ c)) && decide (catS [] ≤ 8)) = true
    rw [decide_eq_true x3, decide_eq_true (show 0 + c ≤ 16 by omega), decide_eq_true (show 0 + c ≤ c by omega)]
    rfl
  have hf : (List.range c).all (fun i => bf (gI g2 (q + 1) (0 + i))) = true := List.all_eq_true.mpr fun i hi => by
    have hic := List.mem_range.mp hi
    rw [← hg2, gI_hN, if_neg (by omega), ← hg1, gI_sI, if_neg (by omega), Nat.zero_add]
    exact r7 i hic
  have xm : ((16 : Int32) < ii c) = False := by
    have : ∀ c, c < 10 → ¬ (16 : Int32) < ii c := by decide
    exact eq_false (this c hc)
  have xt : (ii c < (16 : Int32)) = True := by
    have : ∀ c, c < 10 → ii c < (16 : Int32) := by decide
    exact eq_true (this c hc)
  have kr3 : isK (cI g2 (q + 1) (r + 1) 0 0 c) r kc_String = true := kr2
  have xl : (ii c ≤ (16 : Int32)) = True := by
    have : ∀ c, c < 10 → ii c ≤ (16 : Int32) := by decide
    exact eq_true (this c hc)
  have xz : (ii c < (0 : Int32)) = False := ii_neg (by omega)
  refine ⟨r, sR (cI g2 (q + 1) (r + 1) 0 0 c) r 0 (some (r + 1)), fun Q => ?_, ?_, by rw [← hg2]; show nx g1 + 1 = _; omega, by rw [← hg2, ← hg1]; show sc g0 + c = _; omega⟩
  · simp only [↓e_StringBuilder_toString_0, ↓e_StringBuilder_toString_3, ↓e_StringBuilder_toString_4, ↓e_StringBuilder_toString_5, ↓e_StringBuilder_toString_8, ↓e_String_init_LjavalangStringBuilderV_0, ↓e_String_init_LjavalangStringBuilderV_1, ↓e_String_init_LjavalangStringBuilderV_2, ↓e_String_init_LjavalangStringBuilderV_3, ↓e_String_init_LjavalangStringBuilderV_6, ↓e_String_init_LjavalangAbstractStringBuilderLjavalangVoidV_0, ↓e_String_init_LjavalangAbstractStringBuilderLjavalangVoidV_1, ↓e_String_init_LjavalangAbstractStringBuilderLjavalangVoidV_4, ↓e_String_init_LjavalangAbstractStringBuilderLjavalangVoidV_5, ↓e_String_init_LjavalangAbstractStringBuilderLjavalangVoidV_8, ↓e_String_init_LjavalangAbstractStringBuilderLjavalangVoidV_9, ↓e_String_init_LjavalangAbstractStringBuilderLjavalangVoidV_10, ↓e_String_init_LjavalangAbstractStringBuilderLjavalangVoidV_13, ↓e_String_init_LjavalangAbstractStringBuilderLjavalangVoidV_15, ↓e_String_init_LjavalangAbstractStringBuilderLjavalangVoidV_16, ↓e_String_init_LjavalangAbstractStringBuilderLjavalangVoidV_19, ↓e_String_init_LjavalangAbstractStringBuilderLjavalangVoidV_22, ↓e_String_init_LjavalangAbstractStringBuilderLjavalangVoidV_23, ↓e_String_init_LjavalangAbstractStringBuilderLjavalangVoidV_24, ↓e_String_init_LjavalangAbstractStringBuilderLjavalangVoidV_27, ↓e_String_init_LjavalangAbstractStringBuilderLjavalangVoidV_28, ↓e_String_init_LjavalangAbstractStringBuilderLjavalangVoidV_29, ↓e_String_init_LjavalangAbstractStringBuilderLjavalangVoidV_30, ↓e_String_init_LjavalangAbstractStringBuilderLjavalangVoidV_32, ↓e_String_init_LjavalangAbstractStringBuilderLjavalangVoidV_35, ↓e_String_init_LjavalangAbstractStringBuilderLjavalangVoidV_38, ↓e_String_init_LjavalangAbstractStringBuilderLjavalangVoidV_41, ↓e_String_init_LjavalangAbstractStringBuilderLjavalangVoidV_44, ↓e_String_init_LjavalangAbstractStringBuilderLjavalangVoidV_47, ↓e_String_init_LjavalangAbstractStringBuilderLjavalangVoidV_48, ↓e_String_init_LjavalangAbstractStringBuilderLjavalangVoidV_51, ↓e_String_init_LjavalangAbstractStringBuilderLjavalangVoidV_54, ↓e_String_init_LjavalangAbstractStringBuilderLjavalangVoidV_55, ↓e_String_init_LjavalangAbstractStringBuilderLjavalangVoidV_56, ↓e_String_init_LjavalangAbstractStringBuilderLjavalangVoidV_57, ↓e_String_init_LjavalangAbstractStringBuilderLjavalangVoidV_79, ↓e_String_init_LjavalangAbstractStringBuilderLjavalangVoidV_80, ↓e_String_init_LjavalangAbstractStringBuilderLjavalangVoidV_81, ↓e_String_init_LjavalangAbstractStringBuilderLjavalangVoidV_84, ↓e_String_init_LjavalangAbstractStringBuilderLjavalangVoidV_85, ↓e_String_init_LjavalangAbstractStringBuilderLjavalangVoidV_86, ↓e_String_init_LjavalangAbstractStringBuilderLjavalangVoidV_87, ↓e_String_init_LjavalangAbstractStringBuilderLjavalangVoidV_89, ↓e_String_init_LjavalangAbstractStringBuilderLjavalangVoidV_90, ↓e_String_init_LjavalangAbstractStringBuilderLjavalangVoidV_91, ↓e_String_init_LjavalangAbstractStringBuilderLjavalangVoidV_94, ↓e_String_init_LjavalangAbstractStringBuilderLjavalangVoidV_97, ↓e_AbstractStringBuilder_getValue_0, ↓e_AbstractStringBuilder_getValue_1, ↓e_AbstractStringBuilder_getValue_4, ↓e_StringBuilder_length_0, ↓e_StringBuilder_length_1, ↓e_StringBuilder_length_4, ↓e_AbstractStringBuilder_length_0, ↓e_AbstractStringBuilder_length_1, ↓e_AbstractStringBuilder_length_4, ↓e_AbstractStringBuilder_isLatin1_0, ↓e_AbstractStringBuilder_isLatin1_3, ↓e_AbstractStringBuilder_isLatin1_6, ↓e_AbstractStringBuilder_isLatin1_7, ↓e_AbstractStringBuilder_isLatin1_10, ↓e_AbstractStringBuilder_isLatin1_13, ↓e_AbstractStringBuilder_isLatin1_14, ↓e_AbstractStringBuilder_isLatin1_17, ↓e_AbstractStringBuilder_isLatin1_18, ↓e_Arrays_copyOfRange_0, ↓e_Arrays_copyOfRange_1, ↓e_Arrays_copyOfRange_4, ↓e_Arrays_copyOfRange_5, ↓e_Arrays_copyOfRange_6, ↓e_Arrays_copyOfRange_7, ↓e_Arrays_copyOfRange_10, ↓e_Arrays_copyOfRange_11, ↓e_Arrays_copyOfRange_12, ↓e_Arrays_copyOfRange_13, ↓e_Arrays_copyOfRange_16, ↓e_Arrays_copyOfRange_17, ↓e_Arrays_copyOfRangeByte_0, ↓e_Arrays_copyOfRangeByte_1, ↓e_Arrays_copyOfRangeByte_2, ↓e_Arrays_copyOfRangeByte_5, ↓e_Arrays_copyOfRangeByte_6, ↓e_Arrays_copyOfRangeByte_7, ↓e_Arrays_copyOfRangeByte_8, ↓e_Arrays_copyOfRangeByte_9, ↓e_Arrays_copyOfRangeByte_10, ↓e_Arrays_copyOfRangeByte_12, ↓e_Arrays_copyOfRangeByte_14, ↓e_Arrays_copyOfRangeByte_15, ↓e_Arrays_copyOfRangeByte_16, ↓e_Arrays_copyOfRangeByte_18, ↓e_Arrays_copyOfRangeByte_19, ↓e_Arrays_copyOfRangeByte_20, ↓e_Arrays_copyOfRangeByte_21, ↓e_Arrays_copyOfRangeByte_22, ↓e_Arrays_copyOfRangeByte_23, ↓e_Arrays_copyOfRangeByte_24, ↓e_Arrays_copyOfRangeByte_27, ↓e_Arrays_copyOfRangeByte_30, ↓e_Arrays_copyOfRangeByte_32, ↓e_Arrays_checkLength_0, ↓e_Arrays_checkLength_1, ↓e_Arrays_checkLength_2, ↓e_Arrays_checkLength_37, ↓e_Math_min_0, ↓e_Math_min_1, ↓e_Math_min_2, ↓e_Math_min_5, ↓e_Math_min_6, ↓e_Math_min_9, ↓e_Math_min_10, not_true_eq_false, not_false_eq_true, one0, true_or, or_true, eq_self, bI_z, bI_nz, bI_o, b_ft, bI_1, bI_0, ↓kC_l, ↓kC_r, Option.toList_some, Option.toList_none, List.cons_append, List.nil_append, s1_0, s1_1i, s1_1r, s1_1w, s1_1n, s1_s, s2_0, s2_1i, s2_1r, s2_1w, s2_1n, s2_s, gI_sI, gI_sR, gI_sL, gI_sD, gR_sI, gR_sR, gR_sL, gR_sD, gL_sI, gL_sR, gL_sL, gL_sD, gD_sI, gD_sR, gD_sL, gD_sD, isK_sI, isK_sR, isK_sL, isK_sD, inL_sI, inL_sR, inL_sL, inL_sD, nx_sI, nx_sR, nx_sL, nx_sD, kd_sI, kd_sR, kd_sL, kd_sD, ln_sI, ln_sR, ln_sL, ln_sD, ↓reduceIte, c8_n, c8_1, c8_2, c8_3, c8_4, Nat.reduceAdd, hr, hr0, hg0, kr, ks, r2, r3, r4, hg1, kb1, lb1, x1, x2, x3', x4, x5, nc, zn, bc, and_self, hr1, n1, hg2, kb2, lb2, xm, xl, xt, xz, hcp, hf, kr2, kr3]
  · rw [← hg2, ← hg1, ← hg0]
    exact ((((Lo9.refl r h).hN (by omega)).sI (Nat.le_refl _)).hN (by rw [nx_sI, nx_hN]; omega)).cI (by omega) |>.sR (Nat.le_refl _)
end SBS
