/-! copies of stretches, class objects -/
section COPIES
variable (l : Launch) (D : va_G) (AC : Nat → ClassId) (b : Nat × (Nat → Nat)) (z L : Nat) (xs : Nat → Int32) (G : Pg) {j pc : Nat}
theorem cE_cI {h : Hp} {a d sp dp n c : Nat} (hc : c ≠ d) : cE AC b z (cI h a d sp dp n) c = cE AC b z h c := cE_cong AC b z rfl rfl (funext fun q => by rw [gI_cI, if_neg (fun w => hc w.1)]) rfl rfl rfl
theorem cE_cR {h : Hp} {a d sp dp n c : Nat} (hc : c ≠ d) : cE AC b z (cR h a d sp dp n) c = cE AC b z h c := cE_cong AC b z rfl rfl rfl (funext fun q => by rw [gR_cR, if_neg (fun w => hc w.1)]) rfl rfl
theorem Bd_cI {h : Hp} {a d sp dp n : Nat} (ha : d ≠ 0) (hb : Bd L xs h) : Bd L xs (cI h a d sp dp n) := by
  obtain ⟨h1, h2, h3, h4, h5, h6⟩ := hb
  exact ⟨h1, h2, h3, fun j hj => by rw [gI_cI, if_neg (fun q => ha q.1.symm)]; exact h4 j hj, h5, h6⟩
theorem cpOK_spec {h : Hp} {t a d : Nat} {sp dp k : Int32} {r : Sk} (hk : cpOK h t a d sp dp k r = true) : a < nx h ∧ kd h a = 100 + t ∧ d < nx h ∧ kd h d = 100 + t ∧ 0 ≤ sp ∧ 0 ≤ dp ∧ 0 ≤ k ∧ sp.toNatClampNeg + k.toNatClampNeg ≤ ln h a ∧ dp.toNatClampNeg + k.toNatClampNeg ≤ ln h d ∧ catS r ≤ 8 := by
  unfold cpOK at hk
  simp only [Bool.and_eq_true, decide_eq_true_eq] at hk
  obtain ⟨⟨⟨⟨h1, h2⟩, ⟨h3, h4⟩, h5⟩, h6, h7⟩, h8⟩ := hk
  obtain ⟨q1, q2⟩ := isK_spec h1
  obtain ⟨q3, q4⟩ := isK_spec h2
  exact ⟨q1, q2, q3, q4, h3, h4, h5, h6, h7, h8⟩
theorem nfw : nativeFrameWords "java/lang/System" "arraycopy" 5 ≤ 40 := by decide
theorem sn_cpyB {t idx : Nat} (hd : decode (mC j) pc = .ok (.invokestatic idx, 3)) (ht : t < nA) (hk : kA t = .byte) (he : kE t = 0) (h0 : t ≠ 0) (hf : 1 ≤ mF j) (hw : 60 ≤ mW j)
    (w1 : Cond.methodLink (mO j) idx arraycopyName ∈ TBg) (w2 : Cond.native arraycopyName ∈ TBg) (w3 : Cond.static arraycopyName ∈ TBg) (w4 : Cond.initialized "java/lang/System" ∈ TBg) : Snd l D AC b z L xs G j pc (oCpyB t (pc + 3)) := by
  intro ls st h Q kk p e R s m args below meth c QQ X E H locs lsR cells slots hP hS hB hL
  have hE := X.2.2.2.2.2.2.2.2.2.1
  unfold oCpyB at kk
  split at kk
  · split at kk
    · rename_i k dp d sp a r hK
      obtain ⟨hK, hbf⟩ := and2 hK
      obtain ⟨c1, c2, c3, c4, c5, c6, c7, c8, c9, c10⟩ := cpOK_spec hK
      obtain ⟨-, gf, gw, -⟩ := X.2.2.2.2.2.2.2.2.2.2
      have hnf := nfw
      cases a with
      | zero => rw [hB.2.2.2.2.2.2.2] at c2; omega
      | succ q =>
      cases d with
      | zero => rw [hB.2.2.2.2.2.2.2] at c4; omega
      | succ y =>
        simp only [List.map_cons, tvs b z (id_low L xs hB.2.2 c1), tvs b z (id_low L xs hB.2.2 c3)]
        have hg := wl_get AC b z c1
        rw [cE_arr AC b z c2, aV_int b z he] at hg
        have hy := wl_get AC b z c3
        rw [cE_arr AC b z c4, aV_int b z he] at hy
        refine va_copyi (D := D) (ty := .byte) X.1 X.2.1 (X.2.2.2.1.trans hL.1.symm) X.2.2.2.2.1 (X.2.2.2.2.2.1 _ w1) (X.2.2.2.2.2.1 _ w2) (X.2.2.2.2.2.1 _ w3) (X.2.2.2.2.2.1 _ w4) hE.1 hP (wl_D AC b z h) hS q y t t hg hy (by rw [tyL_at AC ht, hk]) (by rw [tyL_at AC ht, hk]) rfl (Int32.not_lt.mpr c5) (Int32.not_lt.mpr c6) (Int32.not_lt.mpr c7) c8 c9 (fun i hi => ?_) (Nat.le_trans hf gf) (by rw [catS_sum]; omega) hd (fun H1 locs1 hP1 _ hS1 => ?_)
        · have := List.all_eq_true.mp hbf i (List.mem_range.mpr hi)
          exact this
        · rw [wl_set AC b z (h' := cI h (q + 1) (y + 1) sp.toNatClampNeg dp.toNatClampNeg k.toNatClampNeg) c3 rfl ?_ (fun c9 h9 => cE_cI AC b z h9)] at hP1
          · exact kk p e R s m args below meth c QQ X E H1 locs1 lsR cells slots hP1 hS1 ⟨hB.1, hB.2.1, Bd_cI L xs (Nat.succ_ne_zero y) hB.2.2⟩ hL
          · rw [cE_arr AC b z (h := cI h (q + 1) (y + 1) sp.toNatClampNeg dp.toNatClampNeg k.toNatClampNeg) c4, aV_int b z he]
            have e1 : gI (cI h (q + 1) (y + 1) sp.toNatClampNeg dp.toNatClampNeg k.toNatClampNeg) (y + 1) = va_cpy (gI h (q + 1)) (gI h (y + 1)) sp.toNatClampNeg dp.toNatClampNeg k.toNatClampNeg := by
              funext w
              rw [gI_cI]
              unfold va_cpy
              by_cases hw9 : dp.toNatClampNeg ≤ w ∧ w < dp.toNatClampNeg + k.toNatClampNeg
              · rw [if_pos ⟨rfl, hw9⟩, if_pos hw9]
              · rw [if_neg (fun v => hw9 v.2), if_neg hw9]
            rw [e1]
            rfl
    · exact kk.elim
  · exact kk.elim
theorem sn_cpyR {t idx : Nat} (hd : decode (mC j) pc = .ok (.invokestatic idx, 3)) (ht : t < nA) (hk : kA t = .object "java/lang/Object") (he : kE t = 1) (h0 : t ≠ 0) (hf : 1 ≤ mF j) (hw : 60 ≤ mW j)
    (w1 : Cond.methodLink (mO j) idx arraycopyName ∈ TBg) (w2 : Cond.native arraycopyName ∈ TBg) (w3 : Cond.static arraycopyName ∈ TBg) (w4 : Cond.initialized "java/lang/System" ∈ TBg) : Snd l D AC b z L xs G j pc (oCpyR t (pc + 3)) := by
  intro ls st h Q kk p e R s m args below meth c QQ X E H locs lsR cells slots hP hS hB hL
  have hE := X.2.2.2.2.2.2.2.2.2.1
  unfold oCpyR at kk
  split at kk
  · split at kk
    · rename_i k dp d sp a r hK
      obtain ⟨hK, hbf⟩ := and2 hK
      obtain ⟨c1, c2, c3, c4, c5, c6, c7, c8, c9, c10⟩ := cpOK_spec hK
      obtain ⟨-, gf, gw, -⟩ := X.2.2.2.2.2.2.2.2.2.2
      have hnf := nfw
      cases a with
      | zero => rw [hB.2.2.2.2.2.2.2] at c2; omega
      | succ q =>
      cases d with
      | zero => rw [hB.2.2.2.2.2.2.2] at c4; omega
      | succ y =>
        simp only [List.map_cons, tvs b z (id_low L xs hB.2.2 c1), tvs b z (id_low L xs hB.2.2 c3)]
        have hg := wl_get AC b z c1
        rw [cE_arr AC b z c2, aV_ref b z he] at hg
        have hy := wl_get AC b z c3
        rw [cE_arr AC b z c4, aV_ref b z he] at hy
        refine va_copyM (D := D) (E0 := "java/lang/Object") (E1 := "java/lang/Object") X.1 X.2.1 (X.2.2.2.1.trans hL.1.symm) X.2.2.2.2.1 (X.2.2.2.2.2.1 _ w1) (X.2.2.2.2.2.1 _ w2) (X.2.2.2.2.2.1 _ w3) (X.2.2.2.2.2.1 _ w4) hE.1 hP (wl_D AC b z h) hS q y t t hg hy (by rw [tyL_at AC ht, hk]) (by rw [tyL_at AC ht, hk]) (Int32.not_lt.mpr c5) (Int32.not_lt.mpr c6) (Int32.not_lt.mpr c7) c8 c9 (fun i hi w hw9 => ?_) (Nat.le_trans hf gf) (by rw [catS_sum]; omega) hd (fun H1 locs1 hP1 _ hS1 => ?_)
        · have h9 := List.all_eq_true.mp hbf i (List.mem_range.mpr hi)
          cases hv : gR h (q + 1) (sp.toNatClampNeg + i) with
          | none => rw [hv] at hw9; cases hw9
          | some v =>
            rw [hv] at hw9 h9
            rw [← Option.some.inj hw9]
            exact any_of D AC b z L xs hE hB.2.2 hP h9
        · rw [wl_set AC b z (h' := cR h (q + 1) (y + 1) sp.toNatClampNeg dp.toNatClampNeg k.toNatClampNeg) c3 rfl ?_ (fun c9 h9 => cE_cR AC b z h9)] at hP1
          · exact kk p e R s m args below meth c QQ X E H1 locs1 lsR cells slots hP1 hS1 hB hL
          · rw [cE_arr AC b z (h := cR h (q + 1) (y + 1) sp.toNatClampNeg dp.toNatClampNeg k.toNatClampNeg) c4, aV_ref b z he]
            have e1 : (fun w => (gR (cR h (q + 1) (y + 1) sp.toNatClampNeg dp.toNatClampNeg k.toNatClampNeg) (y + 1) w).map (adr b z)) = va_cpy (fun w => (gR h (q + 1) w).map (adr b z)) (fun w => (gR h (y + 1) w).map (adr b z)) sp.toNatClampNeg dp.toNatClampNeg k.toNatClampNeg := by
              funext w
              rw [gR_cR]
              unfold va_cpy
              by_cases hw9 : dp.toNatClampNeg ≤ w ∧ w < dp.toNatClampNeg + k.toNatClampNeg
              · rw [if_pos ⟨rfl, hw9⟩, if_pos hw9]
              · rw [if_neg (fun v => hw9 v.2), if_neg hw9]
            rw [e1]
            rfl
    · exact kk.elim
  · exact kk.elim
theorem toV_eM : toV b z (.inr (.inl (some eM))) = .ref (b.2 1) := by
  show Value.ref (adr b z eM) = _
  rw [show eM = 1000000001 + 1 from rfl, adr_x b z]
theorem sn_ldcM {idx : Nat} (hd : decode (mC j) pc = .ok (.ldc idx, 2)) (w1 : Cond.classLink (mO j) idx "[Ljava/lang/Object;" ∈ TBg) : Snd l D AC b z L xs G j pc (oSt (.inr (.inl (some eM))) (pc + 2)) := by
  intro ls st h Q kk p e R s m args below meth c QQ X E H locs lsR cells slots hP hS hB hL
  have hE := X.2.2.2.2.2.2.2.2.2.1
  have go := kk p e R s m args below meth c QQ X E H locs lsR cells slots hP hS hB hL
  simp only [List.map_cons, toV_eM] at go
  exact va_ldcM X.1 X.2.1 X.2.2.2.2.1 (X.2.2.2.2.2.1 _ w1) hE.tl.2.1 hd go
theorem sn_getC {t idx : Nat} (hd : decode (mC j) pc = .ok (.invokevirtual idx, 3)) (ht : t < nA) (hk : kA t = .object "java/lang/Object") (he : kE t = 1) (hf : 1 ≤ mF j) (hw : 60 ≤ mW j)
    (w1 : Cond.methodLink (mO j) idx ⟨"java/lang/Object", "getClass", "()Ljava/lang/Class;"⟩ ∈ TBg) (w2 : (⟨"java/lang/Object", "getClass", "()Ljava/lang/Class;"⟩ : MethodName) ∈ kDecl) (w3 : Cond.selects "[Ljava/lang/Object;" ⟨"java/lang/Object", "getClass", "()Ljava/lang/Class;"⟩ ⟨"java/lang/Object", "getClass", "()Ljava/lang/Class;"⟩ ∈ TBg)
    (w4 : Cond.instanceMethod ⟨"java/lang/Object", "getClass", "()Ljava/lang/Class;"⟩ ∈ TBg) (w5 : Cond.native ⟨"java/lang/Object", "getClass", "()Ljava/lang/Class;"⟩ ∈ TBg) : Snd l D AC b z L xs G j pc (oGetC t (pc + 3)) := by
  intro ls st h Q kk p e R s m args below meth c QQ X E H locs lsR cells slots hP hS hB hL
  have hE := X.2.2.2.2.2.2.2.2.2.1
  unfold oGetC at kk
  split at kk
  · split at kk
    · rename_i a r hK
      obtain ⟨hK, hc8⟩ := and2 hK
      obtain ⟨hK, ha0⟩ := and2 hK
      have hc8 : catS r ≤ 8 := of_decide_eq_true hc8
      have ha0 : a ≠ 0 := of_decide_eq_true ha0
      obtain ⟨h3, h4⟩ := isK_spec hK
      obtain ⟨q, rfl⟩ : ∃ q, a = q + 1 := ⟨a - 1, by omega⟩
      have go := kk p e R s m args below meth c QQ X E H locs lsR cells slots hP hS hB hL
      simp only [List.map_cons, toV_eM] at go
      simp only [List.map_cons, tvs b z (id_low L xs hB.2.2 h3)]
      obtain ⟨-, gf, gw, -⟩ := X.2.2.2.2.2.2.2.2.2.2
      have hg := wl_get AC b z h3
      rw [cE_arr AC b z h4, aV_ref b z he] at hg
      have hra := arr_name D hE.1 ht
      rw [hk] at hra
      have hnm : s.vm.findClass "[Ljava/lang/Object;" = some (AC t) := va_nmO hra (by decide +kernel)
      exact va_getC X.1 X.2.1 (X.2.2.2.1.trans hL.1.symm) X.2.2.2.2.1 (X.2.2.2.2.2.1 _ w1) (va_Nw.use rfl (hE.2.2.2.2.2.1 _ w2)) (X.2.2.2.2.2.1 _ w3) (X.2.2.2.2.2.1 _ w4) (X.2.2.2.2.2.1 _ w5) hE.tl.2.1 ⟨_, hP q _ hg, rfl, hnm⟩ (Nat.le_trans hf gf) (by rw [catS_sum]; omega) hd go
    · exact kk.elim
  · exact kk.elim
end COPIES
