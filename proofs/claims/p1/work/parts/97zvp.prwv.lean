/-! prwv: row in values, on both sides; two strings are held against each other -/
/-- the char of node i in row -/
def rch (α : As) (i : Nat) : Int32 := if 0 < α.1 i 7 then 84 else if α.1 i 5 ≤ 0 then (if α.2.1 i = 0 then 46 else 113) else 119
theorem rch_c (α : As) (i : Nat) : Chr (rch α i) := by
  unfold rch
  split
  · exact Or.inl rfl
  · split
    · split
      · exact Or.inr (Or.inr (Or.inl rfl))
      · exact Or.inr (Or.inr (Or.inr rfl))
    · exact Or.inr (Or.inl rfl)
/-- r is a String of the c chars w -/
def Sgw (h : Hp) (r c : Nat) (w : Nat → Int32) : Prop := isK h r kc_String = true ∧ gR h r 0 = some (r + 1) ∧ gI h r 1 = 0 ∧ isK h (r + 1) 105 = true ∧ ln h (r + 1) = c ∧ ∀ j, j < c → gI h (r + 1) j = w j
section RWV
variable {τ : Nat → Nat} {n A c B T q : Nat} {K : Int32} {p w : Nat → Nat} {h h2 : Hp} {α : As}
theorem Sgw.lo {r : Nat} {w : Nat → Int32} (S : Sgw h r c w) (h1 : 121 < r) (L : Lo9 (nx h) (sI h 121 0 0) h2) : Sgw h2 r c w := by
  obtain ⟨s1, s2, s3, s4, s5, s6⟩ := S
  have t1 := isK_lt s1
  have t4 := isK_lt s4
  have k1 : isK (sI h 121 0 0) r kc_String = true := s1
  have k4 : isK (sI h 121 0 0) (r + 1) 105 = true := s4
  refine ⟨L.k k1 t1, ?_, ?_, L.k k4 t4, ?_, fun j hj => ?_⟩
  · rw [(L.1 r 0 t1).2.1, gR_sI]; exact s2
  · rw [(L.1 r 1 t1).1, gI_sI, if_neg (by omega)]; exact s3
  · rw [(L.2.1 (r + 1) t4).2, ln_sI]; exact s5
  · rw [(L.1 (r + 1) j t4).1, gI_sI, if_neg (by omega)]; exact s6 j hj
theorem q_lat1Eq {a b : Nat} {w : Nat → Int32} (ka : isK h a 105 = true) (kb : isK h b 105 = true) (la : ln h a = c) (lb : ln h b = c) (hc : c < 1000) (va : ∀ j, j < c → gI h a j = w j) (vb : ∀ j, j < c → gI h b j = w j) : ∀ Q, WP Gm j_StringLatin1_equals 0 [some (.inr (.inl (some a))), some (.inr (.inl (some b))), none] [] h Q = Q (.inl (some (.inl 1))) h := by
  intro Q
  have el : Int32.ofNat c = ii c := rfl
  have key := loop0 (fun k (_ : Unit) => WP Gm j_StringLatin1_equals 9 [some (.inr (.inl (some a))), some (.inr (.inl (some b))), some (.inl (ii k))] [] h Q) (fun _ x => x) c (fun k x hk => by
    have ja : inL h a (ii k) = true := inL_n (by omega) (by omega)
    have jb : inL h b (ii k) = true := inL_n (by omega) (by omega)
    have ll : (ii c ≤ ii k) = False := by rw [ii_le (by omega) (by omega)]; exact eq_false (by omega)
    rw [e_StringLatin1_equals_9]
    simp only [↓e_StringLatin1_equals_0, ↓e_StringLatin1_equals_1, ↓e_StringLatin1_equals_2, ↓e_StringLatin1_equals_3, ↓e_StringLatin1_equals_4, ↓e_StringLatin1_equals_7, ↓e_StringLatin1_equals_8, ↓e_StringLatin1_equals_10, ↓e_StringLatin1_equals_11, ↓e_StringLatin1_equals_12, ↓e_StringLatin1_equals_15, ↓e_StringLatin1_equals_16, ↓e_StringLatin1_equals_17, ↓e_StringLatin1_equals_18, ↓e_StringLatin1_equals_19, ↓e_StringLatin1_equals_20, ↓e_StringLatin1_equals_21, ↓e_StringLatin1_equals_24, ↓e_StringLatin1_equals_25, ↓e_StringLatin1_equals_26, ↓e_StringLatin1_equals_29, ↓e_StringLatin1_equals_32, ↓e_StringLatin1_equals_33, ↓e_StringLatin1_equals_34, ↓e_StringLatin1_equals_35, not_true_eq_false, not_false_eq_true, one0, true_or, or_true, eq_self, bI_z, bI_nz, bI_o, b_ft, bI_1, bI_0, ↓kC_l, ↓kC_r, Option.toList_some, Option.toList_none, List.cons_append, List.nil_append, s1_0, s1_1i, s1_1r, s1_1w, s1_1n, s1_s, s2_0, s2_1i, s2_1r, s2_1w, s2_1n, s2_s, gI_sI, gI_sR, gI_sL, gI_sD, gR_sI, gR_sR, gR_sL, gR_sD, gL_sI, gL_sR, gL_sL, gL_sD, gD_sI, gD_sR, gD_sL, gD_sD, isK_sI, isK_sR, isK_sL, isK_sD, inL_sI, inL_sR, inL_sL, inL_sD, nx_sI, nx_sR, nx_sL, nx_sD, kd_sI, kd_sR, kd_sL, kd_sD, ln_sI, ln_sR, ln_sL, ln_sD, ↓reduceIte, c8_n, c8_1, c8_2, c8_3, c8_4, Nat.reduceAdd, ka, kb, la, el, ll, ja, jb, ii_nat (show k < 2147483648 by omega), va k hk, vb k hk, ii_succ]) c 0 () (by omega)
  have ll : (ii c ≤ ii c) = True := eq_true (by rw [ii_le (by omega) (by omega)]; exact Nat.le_refl _)
  have pre : WP Gm j_StringLatin1_equals 0 [some (.inr (.inl (some a))), some (.inr (.inl (some b))), none] [] h Q = WP Gm j_StringLatin1_equals 9 [some (.inr (.inl (some a))), some (.inr (.inl (some b))), some (.inl (ii 0))] [] h Q := by
    simp only [↓e_StringLatin1_equals_0, ↓e_StringLatin1_equals_1, ↓e_StringLatin1_equals_2, ↓e_StringLatin1_equals_3, ↓e_StringLatin1_equals_4, ↓e_StringLatin1_equals_7, ↓e_StringLatin1_equals_8, ↓e_StringLatin1_equals_10, ↓e_StringLatin1_equals_11, ↓e_StringLatin1_equals_12, ↓e_StringLatin1_equals_15, ↓e_StringLatin1_equals_16, ↓e_StringLatin1_equals_17, ↓e_StringLatin1_equals_18, ↓e_StringLatin1_equals_19, ↓e_StringLatin1_equals_20, ↓e_StringLatin1_equals_21, ↓e_StringLatin1_equals_24, ↓e_StringLatin1_equals_25, ↓e_StringLatin1_equals_26, ↓e_StringLatin1_equals_29, ↓e_StringLatin1_equals_32, ↓e_StringLatin1_equals_33, ↓e_StringLatin1_equals_34, ↓e_StringLatin1_equals_35, not_true_eq_false, not_false_eq_true, one0, true_or, or_true, eq_self, bI_z, bI_nz, bI_o, b_ft, bI_1, bI_0, ↓kC_l, ↓kC_r, Option.toList_some, Option.toList_none, List.cons_append, List.nil_append, s1_0, s1_1i, s1_1r, s1_1w, s1_1n, s1_s, s2_0, s2_1i, s2_1r, s2_1w, s2_1n, s2_s, gI_sI, gI_sR, gI_sL, gI_sD, gR_sI, gR_sR, gR_sL, gR_sD, gL_sI, gL_sR, gL_sL, gL_sD, gD_sI, gD_sR, gD_sL, gD_sD, isK_sI, isK_sR, isK_sL, isK_sD, inL_sI, inL_sR, inL_sL, inL_sD, nx_sI, nx_sR, nx_sL, nx_sD, kd_sI, kd_sR, kd_sL, kd_sD, ln_sI, ln_sR, ln_sL, ln_sD, ↓reduceIte, c8_n, c8_1, c8_2, c8_3, c8_4, Nat.reduceAdd, ka, kb, la, lb, el]
    rfl
  rw [pre, key, e_StringLatin1_equals_9]
  simp only [↓e_StringLatin1_equals_0, ↓e_StringLatin1_equals_1, ↓e_StringLatin1_equals_2, ↓e_StringLatin1_equals_3, ↓e_StringLatin1_equals_4, ↓e_StringLatin1_equals_7, ↓e_StringLatin1_equals_8, ↓e_StringLatin1_equals_10, ↓e_StringLatin1_equals_11, ↓e_StringLatin1_equals_12, ↓e_StringLatin1_equals_15, ↓e_StringLatin1_equals_16, ↓e_StringLatin1_equals_17, ↓e_StringLatin1_equals_18, ↓e_StringLatin1_equals_19, ↓e_StringLatin1_equals_20, ↓e_StringLatin1_equals_21, ↓e_StringLatin1_equals_24, ↓e_StringLatin1_equals_25, ↓e_StringLatin1_equals_26, ↓e_StringLatin1_equals_29, ↓e_StringLatin1_equals_32, ↓e_StringLatin1_equals_33, ↓e_StringLatin1_equals_34, ↓e_StringLatin1_equals_35, not_true_eq_false, not_false_eq_true, one0, true_or, or_true, eq_self, bI_z, bI_nz, bI_o, b_ft, bI_1, bI_0, ↓kC_l, ↓kC_r, Option.toList_some, Option.toList_none, List.cons_append, List.nil_append, s1_0, s1_1i, s1_1r, s1_1w, s1_1n, s1_s, s2_0, s2_1i, s2_1r, s2_1w, s2_1n, s2_s, gI_sI, gI_sR, gI_sL, gI_sD, gR_sI, gR_sR, gR_sL, gR_sD, gL_sI, gL_sR, gL_sL, gL_sD, gD_sI, gD_sR, gD_sL, gD_sD, isK_sI, isK_sR, isK_sL, isK_sD, inL_sI, inL_sR, inL_sL, inL_sD, nx_sI, nx_sR, nx_sL, nx_sD, kd_sI, kd_sR, kd_sL, kd_sD, ln_sI, ln_sR, ln_sL, ln_sD, ↓reduceIte, c8_n, c8_1, c8_2, c8_3, c8_4, Nat.reduceAdd, ka, la, el, ll]
theorem q_strEq {r s : Nat} {w : Nat → Int32} (a : Sgw h r c w) (b : Sgw h s c w) (hr : 1 ≤ r) (hs : 1 ≤ s) (hne : ¬ r = s) (hc : c < 1000) : ∀ Q, WP Gm j_String_equals 0 [some (.inr (.inl (some r))), some (.inr (.inl (some s))), none] [] h Q = Q (.inl (some (.inl 1))) h := by
  obtain ⟨a1, a2, a3, a4, a5, a6⟩ := a
  obtain ⟨b1, b2, b3, b4, b5, b6⟩ := b
  have hd : dif h (some r) (some s) = true := by
    have t1 := isK_lt a1
    have t2 := isK_lt b1
    unfold dif
    dsimp only
    rw [decide_eq_true (show 1 ≤ r ∧ r < nx h ∧ 1 ≤ s ∧ s < nx h ∧ ¬ r = s from ⟨hr, t1, hs, t2, hne⟩), Bool.or_true]
  have e := q_lat1Eq a4 b4 a5 b5 hc a6 b6
  have r0 : ¬ r = 0 := by omega
  have s0 : ¬ s = 0 := by omega
  intro Q
  rw [e_String_equals_0, e_String_equals_1, e_String_equals_2 _ _ _ _ _ _ (Or.inr hd), if_neg (fun w => hne (Option.some.inj w))]
  simp only [↓e_String_equals_5, ↓e_String_equals_6, ↓e_String_equals_7, ↓e_String_equals_8, ↓e_String_equals_11, ↓e_String_equals_14, ↓e_String_equals_15, ↓e_String_equals_18, ↓e_String_equals_19, ↓e_String_equals_22, ↓e_String_equals_25, ↓e_String_equals_26, ↓e_String_equals_29, ↓e_String_equals_30, ↓e_String_equals_33, ↓e_String_equals_36, ↓e_String_equals_37, ↓e_String_equals_40, ↓e_String_equals_41, ↓e_String_equals_44, ↓e_String_equals_47, ↓e_String_equals_50, ↓e_String_equals_51, ↓e_String_equals_54, ↓e_String_equals_55, not_true_eq_false, not_false_eq_true, one0, true_or, or_true, eq_self, bI_z, bI_nz, bI_o, b_ft, bI_1, bI_0, ↓kC_l, ↓kC_r, Option.toList_some, Option.toList_none, List.cons_append, List.nil_append, s1_0, s1_1i, s1_1r, s1_1w, s1_1n, s1_s, s2_0, s2_1i, s2_1r, s2_1w, s2_1n, s2_s, gI_sI, gI_sR, gI_sL, gI_sD, gR_sI, gR_sR, gR_sL, gR_sD, gL_sI, gL_sR, gL_sL, gL_sD, gD_sI, gD_sR, gD_sL, gD_sD, isK_sI, isK_sR, isK_sL, isK_sD, inL_sI, inL_sR, inL_sL, inL_sD, nx_sI, nx_sR, nx_sL, nx_sD, kd_sI, kd_sR, kd_sL, kd_sD, ln_sI, ln_sR, ln_sL, ln_sD, ↓reduceIte, c8_n, c8_1, c8_2, c8_3, c8_4, Nat.reduceAdd, a1, a2, a3, b1, b2, b3, s0, e]
theorem q_sbString9 (S : Sb h q c) (hc : c < 10) (hn : nx h + 10 ≤ 580300) (hs : sc h + 100 ≤ 5700000) : ∃ g : Hp, (∀ Q, WP Gm j_StringBuilder_toString 0 [some (.inr (.inl (some q)))] [] h Q = Q (.inl (some (.inr (.inl (some (nx h)))))) g) ∧ Sgw g (nx h) c (gI h (q + 1)) ∧ Lo9 (nx h) h g ∧ nx g = nx h + 2 ∧ sc g = sc h + 4 + c := by
  obtain ⟨s1, s2, s3, s4, s5, s6, s7⟩ := S
  have q1 := isK_lt s1
  have q2 := isK_lt s5
  have hr : okR cM sM h 1 4 = true := ok_big (by omega) (by omega)
  generalize hr0 : nx h = r at *
  generalize hg0 : hN h kc_String 0 4 = g0
  have kr : isK g0 r kc_String = true := by rw [← hg0, ← hr0]; exact isK_new
  have ks : isK g0 q kc_StringBuilder = true := by rw [← hg0, isK_hN (by omega)]; exact s1
  have kb : isK g0 (q + 1) 105 = true := by rw [← hg0, isK_hN (by omega)]; exact s5
  have lb : ln g0 (q + 1) = 16 := by rw [← hg0, ln_hN, if_neg (by omega)]; exact s6
  have r2 : gR g0 q 0 = some (q + 1) := by rw [← hg0, gR_hN, if_neg (by omega)]; exact s2
  have r3 : gI g0 q 1 = 0 := by rw [← hg0, gI_hN, if_neg (by omega)]; exact s3
  have r4 : gI g0 q 3 = ii c := by rw [← hg0, gI_hN, if_neg (by omega)]; exact s4
  have r7 : ∀ j, j < c → bf (gI g0 (q + 1) j) = true := fun j hj => by rw [← hg0, gI_hN, if_neg (by omega)]; exact s7 j hj
  have n0 : nx g0 = r + 1 := by rw [← hg0, nx_hN, hr0]
  have s0 : sc g0 = sc h + 4 := by rw [← hg0]; rfl
  generalize hg1 : sI g0 r 1 0 = g1
  have n1 : nx g1 = r + 1 := by rw [← hg1]; exact n0
  have nc : (ii c).toNatClampNeg = c := ii_nat (by omega)
  have zn : (0 : Int32).toNatClampNeg = 0 := by decide
  have hr1 : okR cM sM g1 1 c = true := ok_big (by omega) (by rw [← hg1]; show sc g0 + c ≤ _; omega)
  generalize hg2 : hN g1 105 c c = g2
  have kb1 : isK g1 (q + 1) 105 = true := by rw [← hg1]; exact kb
  have lb1 : ln g1 (q + 1) = 16 := by rw [← hg1]; exact lb
  have kb2 : isK g2 (q + 1) 105 = true := by rw [← hg2, isK_hN (by omega)]; exact kb1
  have lb2 : ln g2 (q + 1) = 16 := by rw [← hg2, ln_hN, if_neg (by omega)]; exact lb1
  have kd2 : isK g2 (r + 1) 105 = true := by rw [← hg2, ← n1]; exact isK_new
  have ld2 : ln g2 (r + 1) = c := by rw [← hg2, ← n1]; exact if_pos rfl
  have kr2 : isK g2 r kc_String = true := by rw [← hg2, isK_hN (by omega), ← hg1]; exact kr
  have e16 : ∀ c, c < 10 → (ii c = Int32.ofNat 16) = False ∧ (ii c - 0 = ii c) ∧ ((0 : Int32) ≤ ii c) ∧ (Int32.ofNat 16 - 0 = 16) ∧ (((16 : Int32) ≤ ii c) = False) ∧ ((ii c ≤ (0 : Int32)) = (c = 0)) := fun c hc => by
    have a1 : ∀ c, c < 10 → ¬ ii c = Int32.ofNat 16 := by decide
    have a2 : ∀ c, c < 10 → ii c - 0 = ii c := by decide
    have a3 : ∀ c, c < 10 → (0 : Int32) ≤ ii c := by decide
    have a5 : ∀ c, c < 10 → ¬ (16 : Int32) ≤ ii c := by decide
    exact ⟨eq_false (a1 c hc), a2 c hc, a3 c hc, by decide, eq_false (a5 c hc), by rw [z_ii, ii_le (by omega) (by omega)]; exact propext ⟨fun w => by omega, fun w => by omega⟩⟩
  obtain ⟨x1, x2, x3, x4, x5, x6⟩ := e16 c hc
  have x3' : ((0 : Int32) ≤ ii c) = True := eq_true x3
  have bc : (c ≤ 1000000) = True := eq_true (by omega)
  have hcp : cpOK g2 5 (q + 1) (r + 1) 0 0 (ii c) [] = true := by
    unfold cpOK
    rw [kb2, kd2, zn, nc, lb2, ld2]
    show ((true && true && (decide ((0 : Int32) ≤ 0) && decide ((0 : Int32) ≤ 0) && decide ((0 : Int32) ≤ ii c))) && (decide (0 + c ≤ 16) && decide (0 + c ≤ c)) && decide (catS [] ≤ 8)) = true
    rw [decide_eq_true x3, decide_eq_true (show 0 + c ≤ 16 by omega), decide_eq_true (show 0 + c ≤ c by omega)]
    rfl
  have hf : (List.range c).all (fun i => bf (gI g2 (q + 1) (0 + i))) = true := List.all_eq_true.mpr fun i hi => by
    have hic := List.mem_range.mp hi
    rw [← hg2, gI_hN, if_neg (by omega), ← hg1, gI_sI, if_neg (by omega), Nat.zero_add]
    exact r7 i hic
  have xm : ((16 : Int32) < ii c) = False := by
    have : ∀ c, c < 10 → ¬ (16 : Int32) < ii c := by decide
    exact eq_false (this c hc)
  have xt : (ii c < (16 : Int32)) = True := by
    have : ∀ c, c < 10 → ii c < (16 : Int32) := by decide
    exact eq_true (this c hc)
  have kr3 : isK (cI g2 (q + 1) (r + 1) 0 0 c) r kc_String = true := kr2
  have xl : (ii c ≤ (16 : Int32)) = True := by
    have : ∀ c, c < 10 → ii c ≤ (16 : Int32) := by decide
    exact eq_true (this c hc)
  have xz : (ii c < (0 : Int32)) = False := ii_neg (by omega)
  refine ⟨sR (cI g2 (q + 1) (r + 1) 0 0 c) r 0 (some (r + 1)), fun Q => ?_, ⟨kr3, ?_, ?_, kd2, ld2, fun j hj => ?_⟩, ?_, by rw [← hg2]; show nx g1 + 1 = _; omega, by rw [← hg2, ← hg1]; show sc g0 + c = _; omega⟩
  · simp only [↓e_StringBuilder_toString_0, ↓e_StringBuilder_toString_3, ↓e_StringBuilder_toString_4, ↓e_StringBuilder_toString_5, ↓e_StringBuilder_toString_8, ↓e_String_init_LjavalangStringBuilderV_0, ↓e_String_init_LjavalangStringBuilderV_1, ↓e_String_init_LjavalangStringBuilderV_2, ↓e_String_init_LjavalangStringBuilderV_3, ↓e_String_init_LjavalangStringBuilderV_6, ↓e_String_init_LjavalangAbstractStringBuilderLjavalangVoidV_0, ↓e_String_init_LjavalangAbstractStringBuilderLjavalangVoidV_1, ↓e_String_init_LjavalangAbstractStringBuilderLjavalangVoidV_4, ↓e_String_init_LjavalangAbstractStringBuilderLjavalangVoidV_5, ↓e_String_init_LjavalangAbstractStringBuilderLjavalangVoidV_8, ↓e_String_init_LjavalangAbstractStringBuilderLjavalangVoidV_9, ↓e_String_init_LjavalangAbstractStringBuilderLjavalangVoidV_10, ↓e_String_init_LjavalangAbstractStringBuilderLjavalangVoidV_13, ↓e_String_init_LjavalangAbstractStringBuilderLjavalangVoidV_15, ↓e_String_init_LjavalangAbstractStringBuilderLjavalangVoidV_16, ↓e_String_init_LjavalangAbstractStringBuilderLjavalangVoidV_19, ↓e_String_init_LjavalangAbstractStringBuilderLjavalangVoidV_22, ↓e_String_init_LjavalangAbstractStringBuilderLjavalangVoidV_23, ↓e_String_init_LjavalangAbstractStringBuilderLjavalangVoidV_24, ↓e_String_init_LjavalangAbstractStringBuilderLjavalangVoidV_27, ↓e_String_init_LjavalangAbstractStringBuilderLjavalangVoidV_28, ↓e_String_init_LjavalangAbstractStringBuilderLjavalangVoidV_29, ↓e_String_init_LjavalangAbstractStringBuilderLjavalangVoidV_30, ↓e_String_init_LjavalangAbstractStringBuilderLjavalangVoidV_32, ↓e_String_init_LjavalangAbstractStringBuilderLjavalangVoidV_35, ↓e_String_init_LjavalangAbstractStringBuilderLjavalangVoidV_38, ↓e_String_init_LjavalangAbstractStringBuilderLjavalangVoidV_41, ↓e_String_init_LjavalangAbstractStringBuilderLjavalangVoidV_44, ↓e_String_init_LjavalangAbstractStringBuilderLjavalangVoidV_47, ↓e_String_init_LjavalangAbstractStringBuilderLjavalangVoidV_48, ↓e_String_init_LjavalangAbstractStringBuilderLjavalangVoidV_51, ↓e_String_init_LjavalangAbstractStringBuilderLjavalangVoidV_54, ↓e_String_init_LjavalangAbstractStringBuilderLjavalangVoidV_55, ↓e_String_init_LjavalangAbstractStringBuilderLjavalangVoidV_56, ↓e_String_init_LjavalangAbstractStringBuilderLjavalangVoidV_57, ↓e_String_init_LjavalangAbstractStringBuilderLjavalangVoidV_79, ↓e_String_init_LjavalangAbstractStringBuilderLjavalangVoidV_80, ↓e_String_init_LjavalangAbstractStringBuilderLjavalangVoidV_81, ↓e_String_init_LjavalangAbstractStringBuilderLjavalangVoidV_84, ↓e_String_init_LjavalangAbstractStringBuilderLjavalangVoidV_85, ↓e_String_init_LjavalangAbstractStringBuilderLjavalangVoidV_86, ↓e_String_init_LjavalangAbstractStringBuilderLjavalangVoidV_87, ↓e_String_init_LjavalangAbstractStringBuilderLjavalangVoidV_89, ↓e_String_init_LjavalangAbstractStringBuilderLjavalangVoidV_90, ↓e_String_init_LjavalangAbstractStringBuilderLjavalangVoidV_91, ↓e_String_init_LjavalangAbstractStringBuilderLjavalangVoidV_94, ↓e_String_init_LjavalangAbstractStringBuilderLjavalangVoidV_97, ↓e_AbstractStringBuilder_getValue_0, ↓e_AbstractStringBuilder_getValue_1, ↓e_AbstractStringBuilder_getValue_4, ↓e_StringBuilder_length_0, ↓e_StringBuilder_length_1, ↓e_StringBuilder_length_4, ↓e_AbstractStringBuilder_length_0, ↓e_AbstractStringBuilder_length_1, ↓e_AbstractStringBuilder_length_4, ↓e_AbstractStringBuilder_isLatin1_0, ↓e_AbstractStringBuilder_isLatin1_3, ↓e_AbstractStringBuilder_isLatin1_6, ↓e_AbstractStringBuilder_isLatin1_7, ↓e_AbstractStringBuilder_isLatin1_10, ↓e_AbstractStringBuilder_isLatin1_13, ↓e_AbstractStringBuilder_isLatin1_14, ↓e_AbstractStringBuilder_isLatin1_17, ↓e_AbstractStringBuilder_isLatin1_18, ↓e_Arrays_copyOfRange_0, ↓e_Arrays_copyOfRange_1, ↓e_Arrays_copyOfRange_4, ↓e_Arrays_copyOfRange_5, ↓e_Arrays_copyOfRange_6, ↓e_Arrays_copyOfRange_7, ↓e_Arrays_copyOfRange_10, ↓e_Arrays_copyOfRange_11, ↓e_Arrays_copyOfRange_12, ↓e_Arrays_copyOfRange_13, ↓e_Arrays_copyOfRange_16, ↓e_Arrays_copyOfRange_17, ↓e_Arrays_copyOfRangeByte_0, ↓e_Arrays_copyOfRangeByte_1, ↓e_Arrays_copyOfRangeByte_2, ↓e_Arrays_copyOfRangeByte_5, ↓e_Arrays_copyOfRangeByte_6, ↓e_Arrays_copyOfRangeByte_7, ↓e_Arrays_copyOfRangeByte_8, ↓e_Arrays_copyOfRangeByte_9, ↓e_Arrays_copyOfRangeByte_10, ↓e_Arrays_copyOfRangeByte_12, ↓e_Arrays_copyOfRangeByte_14, ↓e_Arrays_copyOfRangeByte_15, ↓e_Arrays_copyOfRangeByte_16, ↓e_Arrays_copyOfRangeByte_18, ↓e_Arrays_copyOfRangeByte_19, ↓e_Arrays_copyOfRangeByte_20, ↓e_Arrays_copyOfRangeByte_21, ↓e_Arrays_copyOfRangeByte_22, ↓e_Arrays_copyOfRangeByte_23, ↓e_Arrays_copyOfRangeByte_24, ↓e_Arrays_copyOfRangeByte_27, ↓e_Arrays_copyOfRangeByte_30, ↓e_Arrays_copyOfRangeByte_32, ↓e_Arrays_checkLength_0, ↓e_Arrays_checkLength_1, ↓e_Arrays_checkLength_2, ↓e_Arrays_checkLength_37, ↓e_Math_min_0, ↓e_Math_min_1, ↓e_Math_min_2, ↓e_Math_min_5, ↓e_Math_min_6, ↓e_Math_min_9, ↓e_Math_min_10, not_true_eq_false, not_false_eq_true, one0, true_or, or_true, eq_self, bI_z, bI_nz, bI_o, b_ft, bI_1, bI_0, ↓kC_l, ↓kC_r, Option.toList_some, Option.toList_none, List.cons_append, List.nil_append, s1_0, s1_1i, s1_1r, s1_1w, s1_1n, s1_s, s2_0, s2_1i, s2_1r, s2_1w, s2_1n, s2_s, gI_sI, gI_sR, gI_sL, gI_sD, gR_sI, gR_sR, gR_sL, gR_sD, gL_sI, gL_sR, gL_sL, gL_sD, gD_sI, gD_sR, gD_sL, gD_sD, isK_sI, isK_sR, isK_sL, isK_sD, inL_sI, inL_sR, inL_sL, inL_sD, nx_sI, nx_sR, nx_sL, nx_sD, kd_sI, kd_sR, kd_sL, kd_sD, ln_sI, ln_sR, ln_sL, ln_sD, ↓reduceIte, c8_n, c8_1, c8_2, c8_3, c8_4, Nat.reduceAdd, hr, hr0, hg0, kr, ks, r2, r3, r4, hg1, kb1, lb1, x1, x2, x3', x4, x5, nc, zn, bc, and_self, hr1, n1, hg2, kb2, lb2, xm, xl, xt, xz, hcp, hf, kr2, kr3]
  · rw [gR_sR, if_pos ⟨rfl, rfl⟩]
  · rw [gI_sR, gI_cI, if_neg (by omega), ← hg2, gI_hN, if_neg (by omega), ← hg1, gI_sI, if_pos ⟨rfl, rfl⟩]
  · rw [gI_sR, gI_cI, if_pos ⟨rfl, Nat.zero_le _, by omega⟩, Nat.sub_zero, Nat.zero_add, ← hg2, gI_hN, if_neg (by omega), ← hg1, gI_sI, if_neg (by omega), ← hg0, gI_hN, if_neg (by omega)]
  · rw [← hg2, ← hg1, ← hg0]
    exact ((((Lo9.refl r h).hN (by omega)).sI (Nat.le_refl _)).hN (by rw [nx_sI, nx_hN]; omega)).cI (by omega) |>.sR (Nat.le_refl _)
theorem q_sign9 (S : Str n h) (V : CA n h α) {i : Nat} (hi : i < n) : ∀ Q, WP Gm j_Node_sign 0 [some (.inr (.inl (some (5 + 9 * i))))] [] h Q = Q (.inl (some (.inl (rch α i)))) h := by
  have hi8 : i < 8 := lt_8 (n8 S) hi
  have t1 := (show Chr 84 from Or.inl rfl).f.2.2.2
  have t2 := (show Chr 119 from Or.inr (Or.inl rfl)).f.2.2.2
  have t3 := (show Chr 46 from Or.inr (Or.inr (Or.inl rfl))).f.2.2.2
  have t4 := (show Chr 113 from Or.inr (Or.inr (Or.inr rfl))).f.2.2.2
  have e7 : gI h (5 + 9 * i) 7 = α.1 i 7 := V.1 i hi 7 (by omega) (by omega)
  have e5 : gI h (5 + 9 * i) 5 = α.1 i 5 := V.1 i hi 5 (by omega) (by omega)
  obtain ⟨eq, q4, -⟩ := V.2.1 i hi
  have z : (gI h (6 + 9 * i) 1 ≤ 0) = (α.2.1 i = 0) := by
    rw [eq, z_ii, ii_le (by omega) (by omega)]
    exact propext ⟨fun w => by omega, fun w => by omega⟩
  intro Q
  unfold rch
  by_cases h7 : 0 < α.1 i 7
  · rw [if_pos h7]
    simp only [↓e_Node_sign_0, ↓e_Node_sign_1, ↓e_Node_sign_4, ↓e_Node_sign_7, ↓e_Node_sign_9, ↓e_Node_sign_10, ↓e_Node_sign_11, ↓e_Node_sign_14, ↓e_Node_sign_17, ↓e_Node_sign_19, ↓e_Node_sign_20, ↓e_Node_sign_21, ↓e_Node_sign_24, ↓e_Node_sign_27, ↓e_Node_sign_30, ↓e_Node_sign_32, ↓e_Node_sign_35, ↓e_Node_sign_37, not_true_eq_false, not_false_eq_true, one0, true_or, or_true, eq_self, bI_z, bI_nz, bI_o, b_ft, bI_1, bI_0, ↓kC_l, ↓kC_r, Option.toList_some, Option.toList_none, List.cons_append, List.nil_append, s1_0, s1_1i, s1_1r, s1_1w, s1_1n, s1_s, s2_0, s2_1i, s2_1r, s2_1w, s2_1n, s2_s, gI_sI, gI_sR, gI_sL, gI_sD, gR_sI, gR_sR, gR_sL, gR_sD, gL_sI, gL_sR, gL_sL, gL_sD, gD_sI, gD_sR, gD_sL, gD_sD, isK_sI, isK_sR, isK_sL, isK_sD, inL_sI, inL_sR, inL_sL, inL_sD, nx_sI, nx_sR, nx_sL, nx_sD, kd_sI, kd_sR, kd_sL, kd_sD, ln_sI, ln_sR, ln_sL, ln_sD, ↓reduceIte, c8_n, c8_1, c8_2, c8_3, c8_4, Nat.reduceAdd, l_nodes S hi8, l_hear S hi8, r_node S hi8, r_queue S hi8, r_set S hi8, r_frames S hi8, r_bits S hi8, k_node S hi8, k_queue S hi8, k_frames S hi8, k_set S hi8, k_bits S hi8, ii_nat (lt31 hi8), q_isSending _ S hi8, e7, h7, decide_true, t1]
  · rw [if_neg h7]
    by_cases h5 : α.1 i 5 ≤ 0
    · rw [if_pos h5]
      by_cases h1 : α.2.1 i = 0
      · rw [if_pos h1]
        simp only [↓e_Node_sign_0, ↓e_Node_sign_1, ↓e_Node_sign_4, ↓e_Node_sign_7, ↓e_Node_sign_9, ↓e_Node_sign_10, ↓e_Node_sign_11, ↓e_Node_sign_14, ↓e_Node_sign_17, ↓e_Node_sign_19, ↓e_Node_sign_20, ↓e_Node_sign_21, ↓e_Node_sign_24, ↓e_Node_sign_27, ↓e_Node_sign_30, ↓e_Node_sign_32, ↓e_Node_sign_35, ↓e_Node_sign_37, not_true_eq_false, not_false_eq_true, one0, true_or, or_true, eq_self, bI_z, bI_nz, bI_o, b_ft, bI_1, bI_0, ↓kC_l, ↓kC_r, Option.toList_some, Option.toList_none, List.cons_append, List.nil_append, s1_0, s1_1i, s1_1r, s1_1w, s1_1n, s1_s, s2_0, s2_1i, s2_1r, s2_1w, s2_1n, s2_s, gI_sI, gI_sR, gI_sL, gI_sD, gR_sI, gR_sR, gR_sL, gR_sD, gL_sI, gL_sR, gL_sL, gL_sD, gD_sI, gD_sR, gD_sL, gD_sD, isK_sI, isK_sR, isK_sL, isK_sD, inL_sI, inL_sR, inL_sL, inL_sD, nx_sI, nx_sR, nx_sL, nx_sD, kd_sI, kd_sR, kd_sL, kd_sD, ln_sI, ln_sR, ln_sL, ln_sD, ↓reduceIte, c8_n, c8_1, c8_2, c8_3, c8_4, Nat.reduceAdd, l_nodes S hi8, l_hear S hi8, r_node S hi8, r_queue S hi8, r_set S hi8, r_frames S hi8, r_bits S hi8, k_node S hi8, k_queue S hi8, k_frames S hi8, k_set S hi8, k_bits S hi8, ii_nat (lt31 hi8), q_isSending _ S hi8, e7, h7, decide_false, e5, h5, z, h1, t3]
      · rw [if_neg h1]
        simp only [↓e_Node_sign_0, ↓e_Node_sign_1, ↓e_Node_sign_4, ↓e_Node_sign_7, ↓e_Node_sign_9, ↓e_Node_sign_10, ↓e_Node_sign_11, ↓e_Node_sign_14, ↓e_Node_sign_17, ↓e_Node_sign_19, ↓e_Node_sign_20, ↓e_Node_sign_21, ↓e_Node_sign_24, ↓e_Node_sign_27, ↓e_Node_sign_30, ↓e_Node_sign_32, ↓e_Node_sign_35, ↓e_Node_sign_37, not_true_eq_false, not_false_eq_true, one0, true_or, or_true, eq_self, bI_z, bI_nz, bI_o, b_ft, bI_1, bI_0, ↓kC_l, ↓kC_r, Option.toList_some, Option.toList_none, List.cons_append, List.nil_append, s1_0, s1_1i, s1_1r, s1_1w, s1_1n, s1_s, s2_0, s2_1i, s2_1r, s2_1w, s2_1n, s2_s, gI_sI, gI_sR, gI_sL, gI_sD, gR_sI, gR_sR, gR_sL, gR_sD, gL_sI, gL_sR, gL_sL, gL_sD, gD_sI, gD_sR, gD_sL, gD_sD, isK_sI, isK_sR, isK_sL, isK_sD, inL_sI, inL_sR, inL_sL, inL_sD, nx_sI, nx_sR, nx_sL, nx_sD, kd_sI, kd_sR, kd_sL, kd_sD, ln_sI, ln_sR, ln_sL, ln_sD, ↓reduceIte, c8_n, c8_1, c8_2, c8_3, c8_4, Nat.reduceAdd, l_nodes S hi8, l_hear S hi8, r_node S hi8, r_queue S hi8, r_set S hi8, r_frames S hi8, r_bits S hi8, k_node S hi8, k_queue S hi8, k_frames S hi8, k_set S hi8, k_bits S hi8, ii_nat (lt31 hi8), q_isSending _ S hi8, e7, h7, decide_false, e5, h5, z, h1, t4]
    · rw [if_neg h5]
      simp only [↓e_Node_sign_0, ↓e_Node_sign_1, ↓e_Node_sign_4, ↓e_Node_sign_7, ↓e_Node_sign_9, ↓e_Node_sign_10, ↓e_Node_sign_11, ↓e_Node_sign_14, ↓e_Node_sign_17, ↓e_Node_sign_19, ↓e_Node_sign_20, ↓e_Node_sign_21, ↓e_Node_sign_24, ↓e_Node_sign_27, ↓e_Node_sign_30, ↓e_Node_sign_32, ↓e_Node_sign_35, ↓e_Node_sign_37, not_true_eq_false, not_false_eq_true, one0, true_or, or_true, eq_self, bI_z, bI_nz, bI_o, b_ft, bI_1, bI_0, ↓kC_l, ↓kC_r, Option.toList_some, Option.toList_none, List.cons_append, List.nil_append, s1_0, s1_1i, s1_1r, s1_1w, s1_1n, s1_s, s2_0, s2_1i, s2_1r, s2_1w, s2_1n, s2_s, gI_sI, gI_sR, gI_sL, gI_sD, gR_sI, gR_sR, gR_sL, gR_sD, gL_sI, gL_sR, gL_sL, gL_sD, gD_sI, gD_sR, gD_sL, gD_sD, isK_sI, isK_sR, isK_sL, isK_sD, inL_sI, inL_sR, inL_sL, inL_sD, nx_sI, nx_sR, nx_sL, nx_sD, kd_sI, kd_sR, kd_sL, kd_sD, ln_sI, ln_sR, ln_sL, ln_sD, ↓reduceIte, c8_n, c8_1, c8_2, c8_3, c8_4, Nat.reduceAdd, l_nodes S hi8, l_hear S hi8, r_node S hi8, r_queue S hi8, r_set S hi8, r_frames S hi8, r_bits S hi8, k_node S hi8, k_queue S hi8, k_frames S hi8, k_set S hi8, k_bits S hi8, ii_nat (lt31 hi8), q_isSending _ S hi8, e7, h7, decide_false, e5, h5, t2]
theorem s_row9 (A1 : AI n h) (V : CA n h α) (hn1 : nx h + 20 ≤ 580300) (hs1 : sc h + 300 ≤ 5700000) : ∃ (r : Nat) (g : Hp), (∀ Q, WP Gm j_S_row 0 [some (.inr (.inl (some 1))), none, none] [] h Q = Q (.inl (some (.inr (.inl (some r))))) g) ∧ Sgw g r n (rch α) ∧ nx h ≤ r ∧ Ex h g ∧ nx g ≤ nx h + 4 ∧ sc g ≤ sc h + 40 := by
  have S := A1.1
  have hn := n8 S
  have h121 : 121 ≤ nx h := S.1.1
  generalize hq : nx h = q at *
  have hr : okR cM sM h 1 4 = true := ok_big (by omega) (by omega)
  generalize hg0 : hN h kc_StringBuilder 0 4 = g0
  have k0 : isK g0 q kc_StringBuilder = true := by rw [← hg0, ← hq]; exact isK_new
  have n0 : nx g0 = q + 1 := by rw [← hg0, nx_hN, hq]
  have s0 : sc g0 = sc h + 4 := by rw [← hg0]; rfl
  have l0 : Lo9 q h g0 := by rw [← hg0]; exact (Lo9.refl q h).hN (by omega)
  obtain ⟨g1, a1, a2, a3, a4, a5⟩ := q_sbInit k0 n0 (by rw [← hg0, gI_hN, if_pos hq.symm]) (by omega) (by omega)
  obtain ⟨g, e1, Sg, Vg, Lg, ng, sg⟩ := loopR (fun Q k (g : Hp) => WP Gm j_S_row 10 [some (.inr (.inl (some 1))), some (.inr (.inl (some q))), some (.inl (ii k))] [] g Q)
    (fun k g => Sb g q k ∧ (∀ j, j < k → gI g (q + 1) j = rch α j) ∧ Lo9 q h g ∧ nx g = q + 2 ∧ sc g = sc h + 20) n
    (fun k g hk hI => by
      obtain ⟨Sg, Vg, Lg, ng, sg⟩ := hI
      have hk8 := lt_8 hn hk
      have Ag9 : AI n g := A1.ex (by rw [← hq] at Lg; exact Lg)
      have Sg' := Ag9.1
      have V9 : CA n g α := V.ex S (by rw [← hq] at Lg; exact Lg)
      have x2 := q_sign9 Sg' V9 hk
      have x1 := rch_c α k
      generalize hx : rch α k = x at x1 x2
      obtain ⟨y1, y2⟩ := q_sbAppend Sg (show k < 9 by omega) x1
      refine ⟨_, fun Q => ?_, y2, fun j hj => ?_, (Lg.sI (Nat.le_refl _)).sI (by omega), ng, sg⟩
      · rw [e_S_row_10]
        simp only [↓e_S_row_0, ↓e_S_row_3, ↓e_S_row_4, ↓e_S_row_7, ↓e_S_row_8, ↓e_S_row_9, ↓e_S_row_11, ↓e_S_row_12, ↓e_S_row_15, ↓e_S_row_18, ↓e_S_row_21, ↓e_S_row_22, ↓e_S_row_23, ↓e_S_row_26, ↓e_S_row_29, ↓e_S_row_30, ↓e_S_row_31, ↓e_S_row_34, ↓e_S_row_37, ↓e_S_row_38, ↓e_S_row_41, ↓e_S_row_44, ↓e_S_row_45, ↓e_S_row_48, ↓f_S_row_34, not_true_eq_false, not_false_eq_true, one0, true_or, or_true, eq_self, bI_z, bI_nz, bI_o, b_ft, bI_1, bI_0, ↓kC_l, ↓kC_r, Option.toList_some, Option.toList_none, List.cons_append, List.nil_append, s1_0, s1_1i, s1_1r, s1_1w, s1_1n, s1_s, s2_0, s2_1i, s2_1r, s2_1w, s2_1n, s2_s, gI_sI, gI_sR, gI_sL, gI_sD, gR_sI, gR_sR, gR_sL, gR_sD, gL_sI, gL_sR, gL_sL, gL_sD, gD_sI, gD_sR, gD_sL, gD_sD, isK_sI, isK_sR, isK_sL, isK_sD, inL_sI, inL_sR, inL_sL, inL_sD, nx_sI, nx_sR, nx_sL, nx_sD, kd_sI, kd_sR, kd_sL, kd_sD, ln_sI, ln_sR, ln_sL, ln_sD, ↓reduceIte, c8_n, c8_1, c8_2, c8_3, c8_4, Nat.reduceAdd, k_s Sg', k_land Sg', k_nodes Sg', k_hear Sg', k_routes Sg', k_traffic Sg', k_market Sg', g_cnt Sg', r_land Sg', r_routes Sg', r_traffic Sg', r_market Sg', r_nodes Sg', r_hear Sg', r_rland Sg', r_tland Sg', r_troutes Sg', l_nodes Sg' hk8, l_hear Sg' hk8, r_node Sg' hk8, r_queue Sg' hk8, r_set Sg' hk8, r_frames Sg' hk8, r_bits Sg' hk8, k_node Sg' hk8, k_queue Sg' hk8, k_frames Sg' hk8, k_set Sg' hk8, k_bits Sg' hk8, ii_nat (lt31 hk8), le_f hn hk, x2, Sg.1, y1, ii_succ]
      · rw [gI_sI]
        by_cases e : j = k
        · rw [if_pos ⟨rfl, e⟩, e]; exact hx.symm
        · rw [if_neg (fun w => e w.2), gI_sI, if_neg (by omega)]
          exact Vg j (by omega)) n 0 g1 (by omega) ⟨a2, fun j hj => absurd hj (by omega), l0.trans a3, a4, by omega⟩
  have Ag9 : AI n g := A1.ex (by rw [← hq] at Lg; exact Lg)
  have Sg' := Ag9.1
  obtain ⟨u, b1, b5, b2, b3, b4⟩ := q_sbString9 Sg (show n < 10 by omega) (by omega) (by omega)
  refine ⟨nx g, u, fun Q => ?_, ⟨b5.1, b5.2.1, b5.2.2.1, b5.2.2.2.1, b5.2.2.2.2.1, fun j hj => (b5.2.2.2.2.2 j hj).trans (Vg j hj)⟩, by omega, ?_, by omega, by omega⟩
  · have pre : WP Gm j_S_row 0 [some (.inr (.inl (some 1))), none, none] [] h Q = WP Gm j_S_row 10 [some (.inr (.inl (some 1))), some (.inr (.inl (some q))), some (.inl (ii 0))] [] g1 Q := by
      simp only [↓e_S_row_0, ↓e_S_row_3, ↓e_S_row_4, ↓e_S_row_7, ↓e_S_row_8, ↓e_S_row_9, ↓e_S_row_11, ↓e_S_row_12, ↓e_S_row_15, ↓e_S_row_18, ↓e_S_row_21, ↓e_S_row_22, ↓e_S_row_23, ↓e_S_row_26, ↓e_S_row_29, ↓e_S_row_30, ↓e_S_row_31, ↓e_S_row_34, ↓e_S_row_37, ↓e_S_row_38, ↓e_S_row_41, ↓e_S_row_44, ↓e_S_row_45, ↓e_S_row_48, not_true_eq_false, not_false_eq_true, one0, true_or, or_true, eq_self, bI_z, bI_nz, bI_o, b_ft, bI_1, bI_0, ↓kC_l, ↓kC_r, Option.toList_some, Option.toList_none, List.cons_append, List.nil_append, s1_0, s1_1i, s1_1r, s1_1w, s1_1n, s1_s, s2_0, s2_1i, s2_1r, s2_1w, s2_1n, s2_s, gI_sI, gI_sR, gI_sL, gI_sD, gR_sI, gR_sR, gR_sL, gR_sD, gL_sI, gL_sR, gL_sL, gL_sD, gD_sI, gD_sR, gD_sL, gD_sD, isK_sI, isK_sR, isK_sL, isK_sD, inL_sI, inL_sR, inL_sL, inL_sD, nx_sI, nx_sR, nx_sL, nx_sD, kd_sI, kd_sR, kd_sL, kd_sD, ln_sI, ln_sR, ln_sL, ln_sD, ↓reduceIte, c8_n, c8_1, c8_2, c8_3, c8_4, Nat.reduceAdd, hr, hq, hg0, k0, a1]
      rfl
    rw [pre, e1 Q, e_S_row_10]
    simp only [↓e_S_row_0, ↓e_S_row_3, ↓e_S_row_4, ↓e_S_row_7, ↓e_S_row_8, ↓e_S_row_9, ↓e_S_row_11, ↓e_S_row_12, ↓e_S_row_15, ↓e_S_row_18, ↓e_S_row_21, ↓e_S_row_22, ↓e_S_row_23, ↓e_S_row_26, ↓e_S_row_29, ↓e_S_row_30, ↓e_S_row_31, ↓e_S_row_34, ↓e_S_row_37, ↓e_S_row_38, ↓e_S_row_41, ↓e_S_row_44, ↓e_S_row_45, ↓e_S_row_48, not_true_eq_false, not_false_eq_true, one0, true_or, or_true, eq_self, bI_z, bI_nz, bI_o, b_ft, bI_1, bI_0, ↓kC_l, ↓kC_r, Option.toList_some, Option.toList_none, List.cons_append, List.nil_append, s1_0, s1_1i, s1_1r, s1_1w, s1_1n, s1_s, s2_0, s2_1i, s2_1r, s2_1w, s2_1n, s2_s, gI_sI, gI_sR, gI_sL, gI_sD, gR_sI, gR_sR, gR_sL, gR_sD, gL_sI, gL_sR, gL_sL, gL_sD, gD_sI, gD_sR, gD_sL, gD_sD, isK_sI, isK_sR, isK_sL, isK_sD, inL_sI, inL_sR, inL_sL, inL_sD, nx_sI, nx_sR, nx_sL, nx_sD, kd_sI, kd_sR, kd_sL, kd_sD, ln_sI, ln_sR, ln_sL, ln_sD, ↓reduceIte, c8_n, c8_1, c8_2, c8_3, c8_4, Nat.reduceAdd, k_s Sg', k_land Sg', k_nodes Sg', k_hear Sg', k_routes Sg', k_traffic Sg', k_market Sg', g_cnt Sg', r_land Sg', r_routes Sg', r_traffic Sg', r_market Sg', r_nodes Sg', r_hear Sg', r_rland Sg', r_tland Sg', r_troutes Sg', le_t hn, Sg.1, b1]
  · have b2' : Lo9 q g u := ⟨fun a k ha => b2.1 a k (by omega), fun a ha => b2.2.1 a (by omega), b2.2.2⟩
    have := Lg.trans b2'
    rw [← hq] at this
    exact this
theorem qx_mrow (R : RM τ n p (8 * B) c B K h) (V : RA τ n p c B h α) (hn1 : nx h + 1000 ≤ 580300) (hs1 : sc h + 7000 ≤ 5700000) :
    ∃ (r : Nat) (h' : Hp), (∀ Q, WP Gm j_Mdl_row 0 [some (.inr (.inl (some 121))), none, none, none] [] h Q = Q (.inl (some (.inr (.inl (some r))))) h') ∧ Sgw h' r n (rch α) ∧ nx h ≤ r ∧ Lo9 (nx h) (sI h 121 0 0) h' ∧ Jt τ h h' := by
  have hn := R.n8
  have R0 : RM τ n p (8 * B) c B K (sI h 121 0 0) := R.th
  have Sh := R.sth 0
  have A0 : RA τ n p c B (sI h 121 0 0) (asV α 50 1 0) := V.th R 0
  generalize hh0 : sI h 121 0 0 = h0 at *
  have nn0 : nx h0 = nx h := by rw [← hh0]; rfl
  have ss0 : sc h0 = sc h := by rw [← hh0]; rfl
  have F0 := R0.F
  have f125 := F0.1
  generalize hq : nx h0 = q at *
  have hr : okR cM sM h0 1 4 = true := ok_big (by omega) (by omega)
  generalize hg0 : hN h0 kc_StringBuilder 0 4 = g0
  have k0 : isK g0 q kc_StringBuilder = true := by rw [← hg0, ← hq]; exact isK_new
  have n0 : nx g0 = q + 1 := by rw [← hg0, nx_hN, hq]
  have s0 : sc g0 = sc h0 + 4 := by rw [← hg0]; rfl
  have l0 : Lo9 q h0 g0 := by rw [← hg0]; exact (Lo9.refl q h0).hN (by omega)
  obtain ⟨g1, a1, a2, a3, a4, a5⟩ := q_sbInit k0 n0 (by rw [← hg0, gI_hN, if_pos hq.symm]) (by omega) (by omega)
  have jk : ∀ {g : Hp}, Lo9 q h0 g → Jk τ h0 g := fun L => Jk.lo F0 (by rw [hq]; exact L)
  have l1 : Lo9 q h0 g1 := l0.trans a3
  have R1 := R0.sw (jk l1).sw
  obtain ⟨c0, -, L⟩ := R0.nl
  have hl : ∀ j, ¬ OW (τ 122) j := fun j => by rw [R.t2]; unfold OW; omega
  have Lst0 : ∀ {g : Hp}, Lo9 q h0 g → Lst τ g 122 6 (fun j f => f = p j) n c0 := fun L' => L.sw (jk L').sw hl (by omega)
  obtain ⟨b, Lb, -⟩ := Lst0 l1
  have hr4 : okR cM sM g1 1 4 = true := ok_big (by omega) (by omega)
  have e122 := q_liter (h := g1) (Q := fun _ _ => True) Lb hr4
  generalize hg2 : sI (sI (sR (hN g1 kc_Itr 0 4) (nx g1) 3 (some 122)) (nx g1) 1 (-1)) (nx g1) 2 (gI g1 122 0) = g2
  have it1 : ∀ Q, WP Gm j_ArrayList_iterator 0 [some (.inr (.inl (some 122)))] [] g1 Q = Q (.inl (some (.inr (.inl (some (q + 2)))))) g2 := fun Q => by
    rw [q_liter Q Lb hr4, hg2, a4]
  have S2 : Sb g2 q 0 := by
    obtain ⟨s1, s2, s3, s4, s5, s6, s7⟩ := a2
    have t1 := isK_lt s1
    have t5 := isK_lt s5
    refine ⟨?_, ?_, ?_, ?_, ?_, ?_, fun j hj => absurd hj (by omega)⟩
    · rw [← hg2, isK_sI, isK_sI, isK_sR, isK_hN t1]; exact s1
    · rw [← hg2, gR_sI, gR_sI, gR_sR, if_neg (by omega), gR_hN, if_neg (by omega)]; exact s2
    · rw [← hg2, gI_sI, if_neg (by omega), gI_sI, if_neg (by omega), gI_sR, gI_hN, if_neg (by omega)]; exact s3
    · rw [← hg2, gI_sI, if_neg (by omega), gI_sI, if_neg (by omega), gI_sR, gI_hN, if_neg (by omega)]; exact s4
    · rw [← hg2, isK_sI, isK_sI, isK_sR, isK_hN t5]; exact s5
    · rw [← hg2, ln_sI, ln_sI, ln_sR, ln_hN, if_neg (by omega)]; exact s6
  have I2 : It g2 (q + 2) 122 0 := by
    rw [← a4, ← hg2]
    refine ⟨isK_new, ?_, ?_, ?_, by omega⟩
    · rw [gR_sI, gR_sI, gR_sR, if_pos ⟨rfl, rfl⟩]
    · rw [gI_sI, if_neg (by omega), gI_sI, if_neg (by omega), gI_sR, gI_hN, if_pos rfl]; rfl
    · rw [gI_sI, if_pos ⟨rfl, rfl⟩, gI_sI, if_neg (by omega), gI_sI, if_neg (by omega), gI_sR, gI_hN, if_neg (by omega)]
  have l2 : Lo9 q h0 g2 := by rw [← hg2]; exact (((l1.hN (by omega)).sR (by omega)).sI (by omega)).sI (by omega)
  have n2 : nx g2 = q + 3 := by rw [← hg2]; show nx g1 + 1 = _; omega
  have s2 : sc g2 = sc h0 + 24 := by rw [← hg2]; show sc g1 + 4 = _; omega
  obtain ⟨⟨g, v3⟩, e1, Sg, Vg, Ig, Lg, ng, sg⟩ := loopR (fun Q k (x : Hp × Option MV) => WP Gm j_Mdl_row 21 [some (.inr (.inl (some 121))), some (.inr (.inl (some q))), some (.inr (.inl (some (q + 2)))), x.2] [] x.1 Q)
    (fun k x => Sb x.1 q k ∧ (∀ j, j < k → gI x.1 (q + 1) j = rch α j) ∧ It x.1 (q + 2) 122 k ∧ Lo9 q h0 x.1 ∧ nx x.1 = q + 3 ∧ sc x.1 = sc h0 + 24) n
    (fun k x hk hI => by
      obtain ⟨g, v3⟩ := x
      dsimp only at hI ⊢
      obtain ⟨Sg, Vg, Ig, Lg, ng, sg⟩ := hI
      have Lsg := Lst0 Lg
      obtain ⟨b, Lb, dd, he⟩ := id Lsg
      obtain ⟨f, f1, f2, f3⟩ := he k hk
      subst f3
      have hx9 : ∀ Q, WP Gm j_Itr_next 0 [some (.inr (.inl (some (q + 2)))), none, none] [] g Q = Q (.inl (some (.inr (.inl (some (p k)))))) (sI (sI g (q + 2) 0 (ii (k + 1))) (q + 2) 1 (ii k)) := fun Q => by rw [q_next Q Lb Ig hk, f1]
      generalize hu : sI (sI g (q + 2) 0 (ii (k + 1))) (q + 2) 1 (ii k) = u at hx9
      have Iu : It u (q + 2) 122 (k + 1) := by rw [← hu]; exact Ig.next (isK_spec Lb.k).2
      have Su : Sb u q k := by rw [← hu]; exact (Sg.sI (by omega) (by omega)).sI (by omega) (by omega)
      have Vu : (∀ j, j < k → gI u (q + 1) j = rch α j) := fun j hj => by rw [← hu, gI_sI, if_neg (by omega), gI_sI, if_neg (by omega)]; exact Vg j hj
      have Lu : Lo9 q h0 u := by rw [← hu]; exact (Lg.sI (by omega)).sI (by omega)
      have nu : nx u = q + 3 := by rw [← hu]; exact ng
      have su : sc u = sc h0 + 24 := by rw [← hu]; exact sg
      have Ru := R0.sw (jk Lu).sw
      obtain ⟨N1, -, ⟨kk, c9, k1, -, L1⟩, -⟩ := Ru.nd hk
      have Au : RA τ n p c B u (asV α 50 1 0) := A0.jk R0 (jk Lu)
      have e7 : gI u (p k) 7 = α.1 k 7 := (Au.f hk 7 (by omega) (by omega)).trans (asV_n α 0 (by omega))
      have e5 : gI u (p k) 5 = α.1 k 5 := (Au.f hk 5 (by omega) (by omega)).trans (asV_n α 0 (by omega))
      have ekk : kk = α.2.1 k := by
        obtain ⟨c8, -, L8⟩ := Au.q hk
        obtain ⟨x8, y8⟩ := L8.li
        obtain ⟨x9, y9⟩ := L1.li
        have z8 : α.2.1 k < 1000000 := y8.b
        have z9 := y9.b
        have q9 : ii kk = ii (α.2.1 k) := L1.s.symm.trans L8.s
        rwa [ii_inj (by omega) (by omega)] at q9
      have k3 := Ig.1
      have fin : ∀ x, Chr x → rch α k = x → (∀ Q, WP Gm j_Mdl_row 21 [some (.inr (.inl (some 121))), some (.inr (.inl (some q))), some (.inr (.inl (some (q + 2)))), v3] [] g Q = WP Gm j_Mdl_row 82 [some (.inr (.inl (some 121))), some (.inr (.inl (some q))), some (.inr (.inl (some (q + 2)))), some (.inr (.inl (some (p k))))] [.inl x, .inr (.inl (some q))] u Q) →
          ∃ a' : Hp × Option MV, (∀ Q, WP Gm j_Mdl_row 21 [some (.inr (.inl (some 121))), some (.inr (.inl (some q))), some (.inr (.inl (some (q + 2)))), v3] [] g Q = WP Gm j_Mdl_row 21 [some (.inr (.inl (some 121))), some (.inr (.inl (some q))), some (.inr (.inl (some (q + 2)))), a'.2] [] a'.1 Q) ∧ Sb a'.1 q (k + 1) ∧ (∀ j, j < k + 1 → gI a'.1 (q + 1) j = rch α j) ∧ It a'.1 (q + 2) 122 (k + 1) ∧ Lo9 q h0 a'.1 ∧ nx a'.1 = q + 3 ∧ sc a'.1 = sc h0 + 24 := fun x hx ex e => by
        obtain ⟨y1, y2⟩ := q_sbAppend Su (show k < 9 by omega) hx
        obtain ⟨i1, i2, i3, i4, i5⟩ := Iu
        refine ⟨(sI (sI u q 3 (ii (k + 1))) (q + 1) k x, some (.inr (.inl (some (p k))))), fun Q => ?_, y2, fun j hj => ?_, ⟨i1, i2, ?_, ?_, i5⟩, (Lu.sI (Nat.le_refl _)).sI (by omega), nu, su⟩
        · rw [e]
          simp only [↓e_Mdl_row_0, ↓e_Mdl_row_1, ↓e_Mdl_row_2, ↓e_Mdl_row_5, ↓e_Mdl_row_8, ↓e_Mdl_row_9, ↓e_Mdl_row_12, ↓e_Mdl_row_13, ↓e_Mdl_row_14, ↓e_Mdl_row_17, ↓e_Mdl_row_20, ↓e_Mdl_row_22, ↓e_Mdl_row_27, ↓e_Mdl_row_30, ↓e_Mdl_row_31, ↓e_Mdl_row_36, ↓e_Mdl_row_39, ↓e_Mdl_row_40, ↓e_Mdl_row_41, ↓e_Mdl_row_42, ↓e_Mdl_row_45, ↓e_Mdl_row_48, ↓e_Mdl_row_50, ↓e_Mdl_row_53, ↓e_Mdl_row_54, ↓e_Mdl_row_57, ↓e_Mdl_row_60, ↓e_Mdl_row_62, ↓e_Mdl_row_65, ↓e_Mdl_row_66, ↓e_Mdl_row_69, ↓e_Mdl_row_72, ↓e_Mdl_row_75, ↓e_Mdl_row_77, ↓e_Mdl_row_80, ↓e_Mdl_row_82, ↓e_Mdl_row_85, ↓e_Mdl_row_86, ↓e_Mdl_row_89, ↓e_Mdl_row_90, ↓e_Mdl_row_93, ↓f_Mdl_row_82, not_true_eq_false, not_false_eq_true, one0, true_or, or_true, eq_self, bI_z, bI_nz, bI_o, b_ft, bI_1, bI_0, ↓kC_l, ↓kC_r, Option.toList_some, Option.toList_none, List.cons_append, List.nil_append, s1_0, s1_1i, s1_1r, s1_1w, s1_1n, s1_s, s2_0, s2_1i, s2_1r, s2_1w, s2_1n, s2_s, gI_sI, gI_sR, gI_sL, gI_sD, gR_sI, gR_sR, gR_sL, gR_sD, gL_sI, gL_sR, gL_sL, gL_sD, gD_sI, gD_sR, gD_sL, gD_sD, isK_sI, isK_sR, isK_sL, isK_sD, inL_sI, inL_sR, inL_sL, inL_sD, nx_sI, nx_sR, nx_sL, nx_sD, kd_sI, kd_sR, kd_sL, kd_sD, ln_sI, ln_sR, ln_sL, ln_sD, ↓reduceIte, c8_n, c8_1, c8_2, c8_3, c8_4, Nat.reduceAdd, Su.1, y1]
        · dsimp only
          rw [gI_sI]
          by_cases e : j = k
          · rw [if_pos ⟨rfl, e⟩, e]; exact ex.symm
          · rw [if_neg (fun w => e w.2), gI_sI, if_neg (by omega)]
            exact Vu j (by omega)
        · dsimp only
          rw [gI_sI, if_neg (by omega), gI_sI, if_neg (by omega)]; exact i3
        · dsimp only
          rw [gI_sI, if_neg (by omega), gI_sI, if_neg (by omega), gI_sI, if_neg (by omega), gI_sI, if_neg (by omega)]; exact i4
      by_cases h7 : 0 < gI u (p k) 7
      · refine fin 84 (Or.inl rfl) (by unfold rch; rw [← e7, if_pos h7]) fun Q => ?_
        rw [e_Mdl_row_21]
        simp only [↓e_Mdl_row_0, ↓e_Mdl_row_1, ↓e_Mdl_row_2, ↓e_Mdl_row_5, ↓e_Mdl_row_8, ↓e_Mdl_row_9, ↓e_Mdl_row_12, ↓e_Mdl_row_13, ↓e_Mdl_row_14, ↓e_Mdl_row_17, ↓e_Mdl_row_20, ↓e_Mdl_row_22, ↓e_Mdl_row_27, ↓e_Mdl_row_30, ↓e_Mdl_row_31, ↓e_Mdl_row_36, ↓e_Mdl_row_39, ↓e_Mdl_row_40, ↓e_Mdl_row_41, ↓e_Mdl_row_42, ↓e_Mdl_row_45, ↓e_Mdl_row_48, ↓e_Mdl_row_50, ↓e_Mdl_row_53, ↓e_Mdl_row_54, ↓e_Mdl_row_57, ↓e_Mdl_row_60, ↓e_Mdl_row_62, ↓e_Mdl_row_65, ↓e_Mdl_row_66, ↓e_Mdl_row_69, ↓e_Mdl_row_72, ↓e_Mdl_row_75, ↓e_Mdl_row_77, ↓e_Mdl_row_80, ↓e_Mdl_row_85, ↓e_Mdl_row_86, ↓e_Mdl_row_89, ↓e_Mdl_row_90, ↓e_Mdl_row_93, not_true_eq_false, not_false_eq_true, one0, true_or, or_true, eq_self, bI_z, bI_nz, bI_o, b_ft, bI_1, bI_0, ↓kC_l, ↓kC_r, Option.toList_some, Option.toList_none, List.cons_append, List.nil_append, s1_0, s1_1i, s1_1r, s1_1w, s1_1n, s1_s, s2_0, s2_1i, s2_1r, s2_1w, s2_1n, s2_s, gI_sI, gI_sR, gI_sL, gI_sD, gR_sI, gR_sR, gR_sL, gR_sD, gL_sI, gL_sR, gL_sL, gL_sD, gD_sI, gD_sR, gD_sL, gD_sD, isK_sI, isK_sR, isK_sL, isK_sD, inL_sI, inL_sR, inL_sL, inL_sD, nx_sI, nx_sR, nx_sL, nx_sD, kd_sI, kd_sR, kd_sL, kd_sD, ln_sI, ln_sR, ln_sL, ln_sD, ↓reduceIte, c8_n, c8_1, c8_2, c8_3, c8_4, Nat.reduceAdd, k3, q_zhas _ Lsg Ig (show k ≤ n by omega), hk, decide_true, hx9, Ru.nk hk, Ru.nz hk, q_msends _ (Ru.nk hk), h7]
      · by_cases h5 : gI u (p k) 5 ≤ 0
        · by_cases h0k : kk = 0
          · refine fin 46 (Or.inr (Or.inr (Or.inl rfl))) (by unfold rch; rw [← e7, if_neg h7, ← e5, if_pos h5, ← ekk, if_pos h0k]) fun Q => ?_
            rw [e_Mdl_row_21]
            simp only [↓e_Mdl_row_0, ↓e_Mdl_row_1, ↓e_Mdl_row_2, ↓e_Mdl_row_5, ↓e_Mdl_row_8, ↓e_Mdl_row_9, ↓e_Mdl_row_12, ↓e_Mdl_row_13, ↓e_Mdl_row_14, ↓e_Mdl_row_17, ↓e_Mdl_row_20, ↓e_Mdl_row_22, ↓e_Mdl_row_27, ↓e_Mdl_row_30, ↓e_Mdl_row_31, ↓e_Mdl_row_36, ↓e_Mdl_row_39, ↓e_Mdl_row_40, ↓e_Mdl_row_41, ↓e_Mdl_row_42, ↓e_Mdl_row_45, ↓e_Mdl_row_48, ↓e_Mdl_row_50, ↓e_Mdl_row_53, ↓e_Mdl_row_54, ↓e_Mdl_row_57, ↓e_Mdl_row_60, ↓e_Mdl_row_62, ↓e_Mdl_row_65, ↓e_Mdl_row_66, ↓e_Mdl_row_69, ↓e_Mdl_row_72, ↓e_Mdl_row_75, ↓e_Mdl_row_77, ↓e_Mdl_row_80, ↓e_Mdl_row_85, ↓e_Mdl_row_86, ↓e_Mdl_row_89, ↓e_Mdl_row_90, ↓e_Mdl_row_93, not_true_eq_false, not_false_eq_true, one0, true_or, or_true, eq_self, bI_z, bI_nz, bI_o, b_ft, bI_1, bI_0, ↓kC_l, ↓kC_r, Option.toList_some, Option.toList_none, List.cons_append, List.nil_append, s1_0, s1_1i, s1_1r, s1_1w, s1_1n, s1_s, s2_0, s2_1i, s2_1r, s2_1w, s2_1n, s2_s, gI_sI, gI_sR, gI_sL, gI_sD, gR_sI, gR_sR, gR_sL, gR_sD, gL_sI, gL_sR, gL_sL, gL_sD, gD_sI, gD_sR, gD_sL, gD_sD, isK_sI, isK_sR, isK_sL, isK_sD, inL_sI, inL_sR, inL_sL, inL_sD, nx_sI, nx_sR, nx_sL, nx_sD, kd_sI, kd_sR, kd_sL, kd_sD, ln_sI, ln_sR, ln_sL, ln_sD, ↓reduceIte, c8_n, c8_1, c8_2, c8_3, c8_4, Nat.reduceAdd, k3, q_zhas _ Lsg Ig (show k ≤ n by omega), hk, decide_true, hx9, Ru.nk hk, Ru.nz hk, q_msends _ (Ru.nk hk), h7, decide_false, h5, N1.2.2.1.1, L1.kd, q_zempty _ L1, h0k]
          · refine fin 113 (Or.inr (Or.inr (Or.inr rfl))) (by unfold rch; rw [← e7, if_neg h7, ← e5, if_pos h5, ← ekk, if_neg h0k]) fun Q => ?_
            rw [e_Mdl_row_21]
            simp only [↓e_Mdl_row_0, ↓e_Mdl_row_1, ↓e_Mdl_row_2, ↓e_Mdl_row_5, ↓e_Mdl_row_8, ↓e_Mdl_row_9, ↓e_Mdl_row_12, ↓e_Mdl_row_13, ↓e_Mdl_row_14, ↓e_Mdl_row_17, ↓e_Mdl_row_20, ↓e_Mdl_row_22, ↓e_Mdl_row_27, ↓e_Mdl_row_30, ↓e_Mdl_row_31, ↓e_Mdl_row_36, ↓e_Mdl_row_39, ↓e_Mdl_row_40, ↓e_Mdl_row_41, ↓e_Mdl_row_42, ↓e_Mdl_row_45, ↓e_Mdl_row_48, ↓e_Mdl_row_50, ↓e_Mdl_row_53, ↓e_Mdl_row_54, ↓e_Mdl_row_57, ↓e_Mdl_row_60, ↓e_Mdl_row_62, ↓e_Mdl_row_65, ↓e_Mdl_row_66, ↓e_Mdl_row_69, ↓e_Mdl_row_72, ↓e_Mdl_row_75, ↓e_Mdl_row_77, ↓e_Mdl_row_80, ↓e_Mdl_row_85, ↓e_Mdl_row_86, ↓e_Mdl_row_89, ↓e_Mdl_row_90, ↓e_Mdl_row_93, not_true_eq_false, not_false_eq_true, one0, true_or, or_true, eq_self, bI_z, bI_nz, bI_o, b_ft, bI_1, bI_0, ↓kC_l, ↓kC_r, Option.toList_some, Option.toList_none, List.cons_append, List.nil_append, s1_0, s1_1i, s1_1r, s1_1w, s1_1n, s1_s, s2_0, s2_1i, s2_1r, s2_1w, s2_1n, s2_s, gI_sI, gI_sR, gI_sL, gI_sD, gR_sI, gR_sR, gR_sL, gR_sD, gL_sI, gL_sR, gL_sL, gL_sD, gD_sI, gD_sR, gD_sL, gD_sD, isK_sI, isK_sR, isK_sL, isK_sD, inL_sI, inL_sR, inL_sL, inL_sD, nx_sI, nx_sR, nx_sL, nx_sD, kd_sI, kd_sR, kd_sL, kd_sD, ln_sI, ln_sR, ln_sL, ln_sD, ↓reduceIte, c8_n, c8_1, c8_2, c8_3, c8_4, Nat.reduceAdd, k3, q_zhas _ Lsg Ig (show k ≤ n by omega), hk, decide_true, hx9, Ru.nk hk, Ru.nz hk, q_msends _ (Ru.nk hk), h7, decide_false, h5, N1.2.2.1.1, L1.kd, q_zempty _ L1, h0k]
        · refine fin 119 (Or.inr (Or.inl rfl)) (by unfold rch; rw [← e7, if_neg h7, ← e5, if_neg h5]) fun Q => ?_
          rw [e_Mdl_row_21]
          simp only [↓e_Mdl_row_0, ↓e_Mdl_row_1, ↓e_Mdl_row_2, ↓e_Mdl_row_5, ↓e_Mdl_row_8, ↓e_Mdl_row_9, ↓e_Mdl_row_12, ↓e_Mdl_row_13, ↓e_Mdl_row_14, ↓e_Mdl_row_17, ↓e_Mdl_row_20, ↓e_Mdl_row_22, ↓e_Mdl_row_27, ↓e_Mdl_row_30, ↓e_Mdl_row_31, ↓e_Mdl_row_36, ↓e_Mdl_row_39, ↓e_Mdl_row_40, ↓e_Mdl_row_41, ↓e_Mdl_row_42, ↓e_Mdl_row_45, ↓e_Mdl_row_48, ↓e_Mdl_row_50, ↓e_Mdl_row_53, ↓e_Mdl_row_54, ↓e_Mdl_row_57, ↓e_Mdl_row_60, ↓e_Mdl_row_62, ↓e_Mdl_row_65, ↓e_Mdl_row_66, ↓e_Mdl_row_69, ↓e_Mdl_row_72, ↓e_Mdl_row_75, ↓e_Mdl_row_77, ↓e_Mdl_row_80, ↓e_Mdl_row_85, ↓e_Mdl_row_86, ↓e_Mdl_row_89, ↓e_Mdl_row_90, ↓e_Mdl_row_93, not_true_eq_false, not_false_eq_true, one0, true_or, or_true, eq_self, bI_z, bI_nz, bI_o, b_ft, bI_1, bI_0, ↓kC_l, ↓kC_r, Option.toList_some, Option.toList_none, List.cons_append, List.nil_append, s1_0, s1_1i, s1_1r, s1_1w, s1_1n, s1_s, s2_0, s2_1i, s2_1r, s2_1w, s2_1n, s2_s, gI_sI, gI_sR, gI_sL, gI_sD, gR_sI, gR_sR, gR_sL, gR_sD, gL_sI, gL_sR, gL_sL, gL_sD, gD_sI, gD_sR, gD_sL, gD_sD, isK_sI, isK_sR, isK_sL, isK_sD, inL_sI, inL_sR, inL_sL, inL_sD, nx_sI, nx_sR, nx_sL, nx_sD, kd_sI, kd_sR, kd_sL, kd_sD, ln_sI, ln_sR, ln_sL, ln_sD, ↓reduceIte, c8_n, c8_1, c8_2, c8_3, c8_4, Nat.reduceAdd, k3, q_zhas _ Lsg Ig (show k ≤ n by omega), hk, decide_true, hx9, Ru.nk hk, Ru.nz hk, q_msends _ (Ru.nk hk), h7, decide_false, h5]) n 0 (g2, none) (by omega) ⟨S2, fun j hj => absurd hj (by omega), I2, l2, n2, s2⟩
  dsimp only at e1 Sg Vg Ig Lg ng sg
  obtain ⟨u, b1, b5, b2, b3, b4⟩ := q_sbString9 Sg (show n < 10 by omega) (by omega) (by omega)
  have Lu : Lo9 q h0 u := Lg.trans ⟨fun a k ha => b2.1 a k (by omega), fun a ha => b2.2.1 a (by omega), b2.2.2⟩
  have k3 := Ig.1
  have Lsg := Lst0 Lg
  refine ⟨nx g, u, fun Q => ?_, ⟨b5.1, b5.2.1, b5.2.2.1, b5.2.2.2.1, b5.2.2.2.2.1, fun j hj => (b5.2.2.2.2.2 j hj).trans (Vg j hj)⟩, by omega, by rw [← nn0]; exact Lu, ⟨⟨0, h0, Or.inl hh0.symm, jk Lu⟩, by omega, by omega⟩⟩
  have pre : WP Gm j_Mdl_row 0 [some (.inr (.inl (some 121))), none, none, none] [] h Q = WP Gm j_Mdl_row 21 [some (.inr (.inl (some 121))), some (.inr (.inl (some q))), some (.inr (.inl (some (q + 2)))), none] [] g2 Q := by
    simp only [↓e_Mdl_row_0, ↓e_Mdl_row_1, ↓e_Mdl_row_2, ↓e_Mdl_row_5, ↓e_Mdl_row_8, ↓e_Mdl_row_9, ↓e_Mdl_row_12, ↓e_Mdl_row_13, ↓e_Mdl_row_14, ↓e_Mdl_row_17, ↓e_Mdl_row_20, ↓e_Mdl_row_22, ↓e_Mdl_row_27, ↓e_Mdl_row_30, ↓e_Mdl_row_31, ↓e_Mdl_row_36, ↓e_Mdl_row_39, ↓e_Mdl_row_40, ↓e_Mdl_row_41, ↓e_Mdl_row_42, ↓e_Mdl_row_45, ↓e_Mdl_row_48, ↓e_Mdl_row_50, ↓e_Mdl_row_53, ↓e_Mdl_row_54, ↓e_Mdl_row_57, ↓e_Mdl_row_60, ↓e_Mdl_row_62, ↓e_Mdl_row_65, ↓e_Mdl_row_66, ↓e_Mdl_row_69, ↓e_Mdl_row_72, ↓e_Mdl_row_75, ↓e_Mdl_row_77, ↓e_Mdl_row_80, ↓e_Mdl_row_82, ↓e_Mdl_row_85, ↓e_Mdl_row_86, ↓e_Mdl_row_89, ↓e_Mdl_row_90, ↓e_Mdl_row_93, not_true_eq_false, not_false_eq_true, one0, true_or, or_true, eq_self, bI_z, bI_nz, bI_o, b_ft, bI_1, bI_0, ↓kC_l, ↓kC_r, Option.toList_some, Option.toList_none, List.cons_append, List.nil_append, s1_0, s1_1i, s1_1r, s1_1w, s1_1n, s1_s, s2_0, s2_1i, s2_1r, s2_1w, s2_1n, s2_s, gI_sI, gI_sR, gI_sL, gI_sD, gR_sI, gR_sR, gR_sL, gR_sD, gL_sI, gL_sR, gL_sL, gL_sD, gD_sI, gD_sR, gD_sL, gD_sD, isK_sI, isK_sR, isK_sL, isK_sD, inL_sI, inL_sR, inL_sL, inL_sD, nx_sI, nx_sR, nx_sL, nx_sD, kd_sI, kd_sR, kd_sL, kd_sD, ln_sI, ln_sR, ln_sL, ln_sD, ↓reduceIte, c8_n, c8_1, c8_2, c8_3, c8_4, Nat.reduceAdd, R.k, hh0, hr, hq, hg0, k0, a1, R1.k, R1.r9, R1.k122, it1]
  rw [pre, e1 Q, e_Mdl_row_21]
  simp only [↓e_Mdl_row_0, ↓e_Mdl_row_1, ↓e_Mdl_row_2, ↓e_Mdl_row_5, ↓e_Mdl_row_8, ↓e_Mdl_row_9, ↓e_Mdl_row_12, ↓e_Mdl_row_13, ↓e_Mdl_row_14, ↓e_Mdl_row_17, ↓e_Mdl_row_20, ↓e_Mdl_row_22, ↓e_Mdl_row_27, ↓e_Mdl_row_30, ↓e_Mdl_row_31, ↓e_Mdl_row_36, ↓e_Mdl_row_39, ↓e_Mdl_row_40, ↓e_Mdl_row_41, ↓e_Mdl_row_42, ↓e_Mdl_row_45, ↓e_Mdl_row_48, ↓e_Mdl_row_50, ↓e_Mdl_row_53, ↓e_Mdl_row_54, ↓e_Mdl_row_57, ↓e_Mdl_row_60, ↓e_Mdl_row_62, ↓e_Mdl_row_65, ↓e_Mdl_row_66, ↓e_Mdl_row_69, ↓e_Mdl_row_72, ↓e_Mdl_row_75, ↓e_Mdl_row_77, ↓e_Mdl_row_80, ↓e_Mdl_row_82, ↓e_Mdl_row_85, ↓e_Mdl_row_86, ↓e_Mdl_row_89, ↓e_Mdl_row_90, ↓e_Mdl_row_93, not_true_eq_false, not_false_eq_true, one0, true_or, or_true, eq_self, bI_z, bI_nz, bI_o, b_ft, bI_1, bI_0, ↓kC_l, ↓kC_r, Option.toList_some, Option.toList_none, List.cons_append, List.nil_append, s1_0, s1_1i, s1_1r, s1_1w, s1_1n, s1_s, s2_0, s2_1i, s2_1r, s2_1w, s2_1n, s2_s, gI_sI, gI_sR, gI_sL, gI_sD, gR_sI, gR_sR, gR_sL, gR_sD, gL_sI, gL_sR, gL_sL, gL_sD, gD_sI, gD_sR, gD_sL, gD_sD, isK_sI, isK_sR, isK_sL, isK_sD, inL_sI, inL_sR, inL_sL, inL_sD, nx_sI, nx_sR, nx_sL, nx_sD, kd_sI, kd_sR, kd_sL, kd_sD, ln_sI, ln_sR, ln_sL, ln_sD, ↓reduceIte, c8_n, c8_1, c8_2, c8_3, c8_4, Nat.reduceAdd, k3, q_zhas _ Lsg Ig (Nat.le_refl n), Nat.lt_irrefl, decide_false, Sg.1, b1]
end RWV
