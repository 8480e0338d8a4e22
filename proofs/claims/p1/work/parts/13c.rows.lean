/-! rows of rows, clones, copies, class objects -/
section MOREROWS
variable (l : Launch) (D : va_G) (AC : Nat → ClassId) (b : Nat × (Nat → Nat)) (z L : Nat) (xs : Nat → Int32) (G : Pg) {j pc : Nat}
theorem sn_aasI {t : Nat} (hd : decode (mC j) pc = .ok (.aastore, 1)) (ht : t < nA) (hk : kA t = .array .int) (he : kE t = 1) (h0 : t ≠ 0) (w3 : FieldType.array .int ∈ kAO) : Snd l D AC b z L xs G j pc (oAasI t (pc + 1)) := by
  intro ls st h Q kk p e R s m args below meth c QQ X E H locs lsR cells slots hP hS hB hL
  have hE := X.2.2.2.2.2.2.2.2.2.1
  unfold oAasI at kk
  split at kk
  · split at kk
    · rename_i x i a r hK
      obtain ⟨hK, h9⟩ := and2 hK
      obtain ⟨h1, h2⟩ := and2 hK
      obtain ⟨h8, h10⟩ := and2 h9
      have h10 : x ≠ 0 := of_decide_eq_true h10
      obtain ⟨h3, h4⟩ := isK_spec h1
      obtain ⟨h6, h7⟩ := isK_spec h8
      have h5 := inL_spec h2
      obtain ⟨y, rfl⟩ : ∃ y, x = y + 1 := ⟨x - 1, by omega⟩
      cases a with
      | zero => rw [hB.2.2.2.2.2.2.2] at h4; omega
      | succ q =>
        simp only [List.map_cons, tvs b z (id_low L xs hB.2.2 h3), tvs b z (id_low L xs hB.2.2 h6)]
        have hg := wl_get AC b z h3
        rw [cE_arr AC b z h4, aV_ref b z he] at hg
        have hy := wl_get AC b z h6
        rw [cE_arr AC b z (t := 0) h7, aV_int b z (show kE 0 = 0 from rfl)] at hy
        have hov : (Cond.arrayOver (.array .int)).before args s = true := hE.2.2.2.2.2.2.2.2.1 _ w3
        obtain ⟨comp, cA, kA9, q1, q2, q3, q4, q5⟩ := arrayOverA_spec hov
        have hra := arr_name D hE.1 ht
        rw [hk] at hra
        have hra0 : s.vm.findClass "[I" = some (AC 0) := arr_name D hE.1 (t := 0) (by decide)
        have e1 : cA = AC t := Option.some.inj (q5.symm.trans hra)
        have e2 : comp = AC 0 := Option.some.inj (q1.symm.trans hra0)
        subst e1
        subst e2
        obtain ⟨kC, hkC, -⟩ := Vm.findClass_spec hra0
        have hlt : i.toNatClampNeg < ln h (q + 1) := Nat.not_le.mp fun w => h5 (Or.inr w)
        have hi0 : ¬ i < 0 := fun w => h5 (Or.inl w)
        have hD := wl_D AC b z h
        refine W.aast X.1 X.2.1 (hP q _ hg) (fun w h => by cases h) (fun h => by cases h) q3 q4 rfl hkC ⟨hi0, by show _ < (arrV _ _ _).slots.size; rw [arrV_size]; exact hlt⟩ (hP y _ hy) (fun w h => by cases h) hkC (va_asg _ _) rfl rfl hd fun H1 e9 z9 oq => ?_
        have f1 : cE AC b z (sR h (q + 1) i.toNatClampNeg (some (y + 1))) (q + 1) = .inl (AC t, ln h (q + 1), .inr (.inr (.inr (.inr (va_up (fun k => (gR h (q + 1) k).map (adr b z)) i.toNatClampNeg (some (adr b z (y + 1)))))))) := by
          rw [cE_arr AC b z (h := sR h (q + 1) i.toNatClampNeg (some (y + 1))) h4, aV_ref b z he, upR]
          rfl
        have hP1 : va_P D kN (wl AC b z (sR h (q + 1) i.toNatClampNeg (some (y + 1)))) H1 := by
          rw [← wl_set AC b z (h := h) (h' := sR h (q + 1) i.toNatClampNeg (some (y + 1))) h3 rfl f1 (fun c9 h9 => cE_sR AC b z h9)]
          refine hP.set hD hg ?_ oq
          show H1[z + q]? = some (vp_cell _ _)
          rw [e9, vp_cell_q, vp_cell_q, arrV_store]
          refine congrArg (fun f => some (arrV _ _ f)) (funext fun w => ?_)
          rw [adr_s b z (id_low L xs hB.2.2 h6)]
          by_cases hw : w = i.toNatClampNeg
          · subst hw
            simp [updV, va_up, va_rf]
          · simp [updV, va_up, hw]
        exact kk p e R s m args below meth c QQ X E H1 _ lsR cells slots hP1 (hS.put z9 oq (hD.2 q _ hg)) hB hL
    · exact kk.elim
  · exact kk.elim
theorem sn_anewA {t idx : Nat} (hd : decode (mC j) pc = .ok (.anewarray idx, 3)) (ht : t < nA) (hk : kA t = .array .int) (he : kE t = 1) (w1 : Cond.classLink (mO j) idx (FieldType.array .int).toString ∈ TBg) (w2 : FieldType.array .int ∈ kAO) : Snd l D AC b z L xs G j pc (oNewA cM sM t (pc + 3)) := by
  intro ls st h Q kk p e R s m args below meth c QQ X E H locs lsR cells slots hP hS hB hL
  unfold oNewA at kk
  split at kk
  · split at kk
    · rename_i i r hR
      obtain ⟨hR, hR3⟩ := and2 hR
      obtain ⟨hR1, hR2⟩ := and2 hR
      obtain ⟨r1, r2⟩ := okR_spec hR3
      have i1 : 0 ≤ i := of_decide_eq_true hR1
      have i2 : i.toNatClampNeg ≤ 1000000 := of_decide_eq_true hR2
      have hz : z ≤ s.heap.size := X.2.2.2.2.2.2.2.2.2.2.1
      obtain ⟨-, -, -, g1, g2, -⟩ := X.2.2.2.2.2.2.2.2.2.2
      refine w_facts hz fun f1 f2 f3 => ?_
      have htp := top_size D AC b z L xs hz hP hS hB f2
      obtain ⟨b1, b2, b3⟩ := hB
      have hra := arr_name D X.2.2.2.2.2.2.2.2.2.1.1 ht
      rw [hk] at hra
      have hov : (Cond.arrayOver (.array .int)).before args s = true := X.2.2.2.2.2.2.2.2.2.1.2.2.2.2.2.2.2.2.1 _ w2
      refine W.anewA X.1 X.2.1 X.2.2.2.2.1 (X.2.2.2.2.2.1 _ w1) hov rfl hd rfl (Int32.not_lt.mpr i1) (by omega) (by omega) (by omega) fun cB kA9 comp u1 u2 u3 u4 => ?_
      have e1 : cB = AC t := Option.some.inj (u1.symm.trans hra)
      subst e1
      generalize hH1 : H.push ({ cls := AC t, slots := Array.replicate i.toNatClampNeg .null, vm := .none } : Cell) = H1
      have z1 : H1.size = H.size + 1 := by rw [← hH1, Array.size_push]
      have e2 : H1[H.size]? = some (arrV (AC t) i.toNatClampNeg (fun _ => .null)) := by rw [← hH1, Array.getElem?_push_size, ← arrV_new]
      have o1 : ∀ q : Nat, q < H.size → H1[q]? = H[q]? := fun q hq => by rw [← hH1, Array.getElem?_push, if_neg (Nat.ne_of_lt hq)]
      have hkp : ∀ (k : Nat) (x : Nat × va_E), (wl AC b z h)[k]? = some x → H1[x.1]? = H[x.1]? := fun k x hx => o1 x.1 ((hP k x hx).lt)
      have hP1 : va_P D kN (wl AC b z (hN h (100 + t) i.toNatClampNeg i.toNatClampNeg)) H1 := by
        rw [wl_push AC b z (h := h) (h' := hN h (100 + t) i.toNatClampNeg i.toNatClampNeg) b3.2.2.1 rfl (fun a ha => cE_hN AC b z (by omega)), cE_arr AC b z (t := t) (by rw [kd_hN, if_pos rfl]), ← htp, ln_hN, if_pos rfl, aV_ref b z he]
        refine (hP.kept hkp).app (fun k x hx => ?_)
        have hz9 : k < 1 := (List.getElem?_eq_some_iff.mp hx).1
        rw [show k = 0 by omega] at hx
        cases hx
        show H1[H.size]? = some (vp_cell _ _)
        rw [vp_cell_q, e2]
        refine congrArg (fun f => some (arrV _ _ f)) (funext fun y => ?_)
        rw [gR_hN, if_pos rfl]
        rfl
      have hS1 : va_S (Az z) s.heap H1 locs := ⟨Nat.le_trans hS.1 (by omega), fun x h1 h2 => (o1 x (Nat.lt_of_lt_of_le h1 hS.1)).trans (hS.2.1 x h1 h2), hS.2.2⟩
      rw [htp, top_ref b z b3.2.2.1 (nx_low L xs b3)]
      exact kk p e R s m args below meth c QQ X E H1 locs lsR (cells + 1) (slots + i.toNatClampNeg) hP1 hS1 ⟨by rw [nx_hN]; omega, by rw [sc_hN]; omega, Bd_hN L xs hR3 b3⟩ hL
    · exact kk.elim
  · exact kk.elim
theorem cE_hC {h : Hp} {a k n c : Nat} (hc : c ≠ nx h) : cE AC b z (hC h a k n) c = cE AC b z h c :=
  cE_cong AC b z (by rw [kd_hC, if_neg hc]) (by rw [ln_hC, if_neg hc]) (funext fun q => by rw [gI_hC, if_neg hc]) (row0_ne hc) (row0_ne hc) (row0_ne hc)
theorem Bd_hC {h : Hp} {a k n : Nat} (hr : okR cM sM h 1 n = true) (hb : Bd L xs h) : Bd L xs (hC h a k n) := by
  obtain ⟨h1, h2, h3, h4, h5, h6⟩ := hb
  unfold okR at hr
  simp only [Bool.and_eq_true, decide_eq_true_eq] at hr
  have hn : (0 : Nat) ≠ nx h := by omega
  exact ⟨hr.1, hr.2, Nat.le_add_left 1 _, fun j hj => by rw [gI_hC, if_neg hn]; exact h4 j hj, by rw [ln_hC, if_neg hn]; exact h5, by rw [kd_hC, if_neg hn]; exact h6⟩
theorem sn_cln {t idx : Nat} {ad : String} (hd : decode (mC j) pc = .ok (.invokevirtual idx, 3)) (ht : t < nA) (hk : kA t = .int) (he : kE t = 0) (had : ad = "[" ++ FieldType.int.toString) (hf : 1 ≤ mF j) (hw : 60 ≤ mW j)
    (w1 : Cond.methodLink (mO j) idx ⟨ad, "clone", "()Ljava/lang/Object;"⟩ ∈ TBg) (w2 : Cond.sameMethod ad "java/lang/Object" "clone" "()Ljava/lang/Object;" ∈ TBg) (w3 : Cond.native ⟨"java/lang/Object", "clone", "()Ljava/lang/Object;"⟩ ∈ TBg) (w4 : Cond.instanceMethod ⟨"java/lang/Object", "clone", "()Ljava/lang/Object;"⟩ ∈ TBg)
    (w5 : Cond.selects ad ⟨ad, "clone", "()Ljava/lang/Object;"⟩ ⟨"java/lang/Object", "clone", "()Ljava/lang/Object;"⟩ ∈ TBg) (w6 : (ad, "java/lang/Cloneable") ∈ kCast) : Snd l D AC b z L xs G j pc (oCln cM sM t (pc + 3)) := by
  intro ls st h Q kk p e R s m args below meth c QQ X E H locs lsR cells slots hP hS hB hL
  have hE := X.2.2.2.2.2.2.2.2.2.1
  unfold oCln at kk
  split at kk
  · split at kk
    · rename_i a r hK
      obtain ⟨hK, hR⟩ := and2 hK
      obtain ⟨hK, hc8⟩ := and2 hK
      obtain ⟨hK, ha0⟩ := and2 hK
      have hc8 : catS r ≤ 8 := of_decide_eq_true hc8
      have ha0 : a ≠ 0 := of_decide_eq_true ha0
      obtain ⟨h3, h4⟩ := isK_spec hK
      obtain ⟨r1, r2⟩ := okR_spec hR
      obtain ⟨q, rfl⟩ : ∃ q, a = q + 1 := ⟨a - 1, by omega⟩
      simp only [List.map_cons, tvs b z (id_low L xs hB.2.2 h3)]
      have hg := wl_get AC b z h3
      rw [cE_arr AC b z h4, aV_int b z he] at hg
      have hz : z ≤ s.heap.size := X.2.2.2.2.2.2.2.2.2.2.1
      obtain ⟨-, gf, gw, g1, g2, -⟩ := X.2.2.2.2.2.2.2.2.2.2
      have hra := arr_name D hE.1 ht
      rw [hk] at hra
      refine w_facts hz fun f1 f2 f3 => ?_
      have htp := top_size D AC b z L xs hz hP hS hB f2
      obtain ⟨b1, b2, b3⟩ := hB
      refine va_clone (D := D) X.1 X.2.1 (X.2.2.2.1.trans hL.1.symm) (own := mO j) (ad := ad) (index := idx) X.2.2.2.2.1 (X.2.2.2.2.2.1 _ w1) (X.2.2.2.2.2.1 _ w2) (X.2.2.2.2.2.1 _ w3) (X.2.2.2.2.2.1 _ w4) (X.2.2.2.2.2.1 _ w5) (hE.2.2.2.2.1 _ w6) hE.1 hP (wl_D AC b z h) hS (fun q hq => Nat.le_trans hz hq) q t hg (by rw [tyL_at AC ht, hk]) (by rw [had]; exact hra) ?_ (Nat.le_trans hf gf) (by rw [catS_sum]; omega) (by omega) (by show slots + ln h (q + 1) ≤ _; omega) hd (fun q9 H1 _ hP1 hD1 hS1 => ?_)
      · exact va_fit (fun i hi => rfl)
      · refine w_facts hz fun f4 f5 f6 => ?_
        have hn : (wl AC b z h).length = nx h - 1 := by
          unfold wl
          rw [List.length_map, List.length_range]
        have hq9 : (wl AC b z h ++ [(q9, Sum.inl (AC t, ln h (q + 1), Sum.inl (gI h (q + 1))))])[nx h - 1]? = some (q9, Sum.inl (AC t, ln h (q + 1), Sum.inl (gI h (q + 1)))) := by
          rw [List.getElem?_append_right (by omega), hn, Nat.sub_self]
          rfl
        have hlt : q9 < H1.size := (hP1 _ _ hq9).lt
        have hge : z ≤ q9 := hD1.2 _ _ hq9
        have hq : q9 = H.size := by
          rcases Nat.lt_or_ge q9 H.size with hc | hc
          · exfalso
            have hi : (wl AC b z h ++ [(q9, Sum.inl (AC t, ln h (q + 1), Sum.inl (gI h (q + 1))))])[q9 - z]? = some (z + (q9 - z), cE AC b z h (q9 - z + 1)) := by
              rw [List.getElem?_append_left (by omega)]
              exact wl_get AC b z (by omega)
            have := hD1.1 _ _ _ _ hi hq9 (by show z + (q9 - z) = q9; omega)
            omega
          · omega
        subst hq
        rw [htp, top_ref b z b3.2.2.1 (nx_low L xs b3)]
        refine kk p e R s m args below meth c QQ X E H1 locs lsR (cells + 1) (slots + ln h (q + 1)) ?_ hS1 ⟨by rw [nx_hC]; omega, by rw [sc_hC]; omega, Bd_hC L xs hR b3⟩ hL
        rw [wl_push AC b z (h := h) (h' := hC h (q + 1) (100 + t) (ln h (q + 1))) b3.2.2.1 rfl (fun a ha => cE_hC AC b z (by omega)), cE_arr AC b z (t := t) (by rw [kd_hC, if_pos rfl]), ← htp, ln_hC, if_pos rfl, aV_int b z he]
        have e1 : gI (hC h (q + 1) (100 + t) (ln h (q + 1))) (nx h) = gI h (q + 1) := funext fun y => by rw [gI_hC, if_pos rfl]
        rw [e1]
        exact hP1
    · exact kk.elim
  · exact kk.elim
end MOREROWS
