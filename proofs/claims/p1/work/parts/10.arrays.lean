/-! arrays, makings, ends, calls -/
section ARRAYS
variable (l : Launch) (D : va_G) (AC : Nat → ClassId) (b : Nat × (Nat → Nat)) (z L : Nat) (xs : Nat → Int32) (G : Pg) {j pc : Nat}
theorem and2 {x y : Bool} (h : (x && y) = true) : x = true ∧ y = true := by
  rw [Bool.and_eq_true] at h
  exact h
theorem aV_int {h : Hp} {a t : Nat} (he : kE t = 0) : aV b z h a t = .inl (gI h a) := by unfold aV; simp only [he]
theorem aV_ref {h : Hp} {a t : Nat} (he : kE t = 1) : aV b z h a t = .inr (.inr (.inr (.inr (fun j => (gR h a j).map (adr b z))))) := by unfold aV; simp only [he]
theorem aV_long {h : Hp} {a t : Nat} (he : kE t = 2) : aV b z h a t = .inr (.inl (gL h a)) := by unfold aV; simp only [he]
theorem sn_iaload {t : Nat} (hd : decode (mC j) pc = .ok (.iaload, 1)) (ht : t < nA) (hk : kA t = .int) (he : kE t = 0) (h0 : t = 0) : Snd l D AC b z L xs G j pc (oIal t (pc + 1)) := by
  intro ls st h Q kk p e R s m args below meth c QQ X E H locs lsR cells slots hP hS hB hL
  unfold oIal at kk
  split at kk
  · split at kk
    · rename_i i a r hK
      obtain ⟨h1, h2⟩ := and2 hK
      obtain ⟨h3, h4⟩ := isK_spec h1
      have h5 := inL_spec h2
      have go := kk p e R s m args below meth c QQ X E H locs lsR cells slots hP hS hB hL
      cases a with
      | zero =>
        obtain ⟨-, -, -, -, -, -, -, -, -, h6, h7, -⟩ := X.2.2.2.2.2.2.2.2.2.1
        have hz : z ≤ s.heap.size := X.2.2.2.2.2.2.2.2.2.2.1
        rw [hB.2.2.2.2.2.2.1] at h5
        have e1 : gI h 0 i.toNatClampNeg = xs i.toNatClampNeg := hB.2.2.2.2.2.1 _ (by
          rcases Nat.lt_or_ge i.toNatClampNeg L with q | q
          · exact q
          · exact absurd (Or.inr q) h5)
        refine va_sld X.1 X.2.1 h6 (Nat.lt_of_lt_of_le h7 hz) (fun q => Nat.not_le.mpr h7 q) hS h5 hd ?_
        rw [← e1]
        exact go
      | succ q =>
        simp only [List.map_cons, tvs b z (id_low L xs hB.2.2 h3)]
        have hg := wl_get AC b z h3
        rw [cE_arr AC b z h4, aV_int b z he] at hg
        refine va_iald (D := D) X.1 X.2.1 X.2.2.2.2.2.2.2.2.2.1.1 hP q t hg (by rw [tyL_at AC ht, hk]) h5 hd ?_
        exact go
    · exact kk.elim
  · exact kk.elim
theorem sn_laload {t : Nat} (hd : decode (mC j) pc = .ok (.laload, 1)) (ht : t < nA) (hk : kA t = .long) (he : kE t = 2) (h0 : t ≠ 0) : Snd l D AC b z L xs G j pc (oLal t (pc + 1)) := by
  intro ls st h Q kk p e R s m args below meth c QQ X E H locs lsR cells slots hP hS hB hL
  unfold oLal at kk
  split at kk
  · split at kk
    · rename_i i a r hK
      obtain ⟨h1, h2⟩ := and2 hK
      obtain ⟨h3, h4⟩ := isK_spec h1
      have h5 := inL_spec h2
      cases a with
      | zero => rw [hB.2.2.2.2.2.2.2] at h4; omega
      | succ q =>
        simp only [List.map_cons, tvs b z (id_low L xs hB.2.2 h3)]
        have hg := wl_get AC b z h3
        rw [cE_arr AC b z h4, aV_long b z he] at hg
        refine va_lald (D := D) X.1 X.2.1 X.2.2.2.2.2.2.2.2.2.1.1 hP q t hg (by rw [tyL_at AC ht, hk]) h5 hd ?_
        exact kk p e R s m args below meth c QQ X E H locs lsR cells slots hP hS hB hL
    · exact kk.elim
  · exact kk.elim
theorem sn_aaload {t : Nat} (hd : decode (mC j) pc = .ok (.aaload, 1)) (ht : t < nA) (hk : (kA t).isReference = true) (he : kE t = 1) (h0 : t ≠ 0) : Snd l D AC b z L xs G j pc (oAal t (pc + 1)) := by
  intro ls st h Q kk p e R s m args below meth c QQ X E H locs lsR cells slots hP hS hB hL
  unfold oAal at kk
  split at kk
  · split at kk
    · rename_i i a r hK
      obtain ⟨h1, h2⟩ := and2 hK
      obtain ⟨h3, h4⟩ := isK_spec h1
      have h5 := inL_spec h2
      cases a with
      | zero => rw [hB.2.2.2.2.2.2.2] at h4; omega
      | succ q =>
        simp only [List.map_cons, tvs b z (id_low L xs hB.2.2 h3)]
        have hg := wl_get AC b z h3
        rw [cE_arr AC b z h4, aV_ref b z he] at hg
        refine ms_aldq (D := D) X.1 X.2.1 X.2.2.2.2.2.2.2.2.2.1.1 hP q t hk hg (tyL_at AC ht) h5 hd ?_
        exact kk p e R s m args below meth c QQ X E H locs lsR cells slots hP hS hB hL
    · exact kk.elim
  · exact kk.elim
theorem sn_iastore {t : Nat} (hd : decode (mC j) pc = .ok (.iastore, 1)) (ht : t < nA) (hk : kA t = .int) (he : kE t = 0) : Snd l D AC b z L xs G j pc (oIas t (pc + 1)) := by
  intro ls st h Q kk p e R s m args below meth c QQ X E H locs lsR cells slots hP hS hB hL
  unfold oIas at kk
  split at kk
  · split at kk
    · rename_i x i a r hK
      obtain ⟨hK, h9⟩ := and2 hK
      obtain ⟨h1, h2⟩ := and2 hK
      obtain ⟨h3, h4⟩ := isK_spec h1
      have h5 := inL_spec h2
      have h6 : a ≠ 0 := of_decide_eq_true h9
      obtain ⟨q, rfl⟩ : ∃ q, a = q + 1 := ⟨a - 1, by omega⟩
      simp only [List.map_cons, tvs b z (id_low L xs hB.2.2 h3)]
      have hg := wl_get AC b z h3
      rw [cE_arr AC b z h4, aV_int b z he] at hg
      refine va_iast (D := D) X.1 X.2.1 X.2.2.2.2.2.2.2.2.2.1.1 hP (wl_D AC b z h) hS q t hg (by rw [tyL_at AC ht, hk]) h5 hd (fun H1 locs1 hP1 _ hS1 => ?_)
      rw [wl_set AC b z (h' := sI h (q + 1) i.toNatClampNeg x) h3 rfl ?_ (fun c9 h9 => cE_sI AC b z h9)] at hP1
      · exact kk p e R s m args below meth c QQ X E H1 locs1 lsR cells slots hP1 hS1 ⟨hB.1, hB.2.1, Bd_sI L xs h6 hB.2.2⟩ hL
      · rw [cE_arr AC b z (h := sI h (q + 1) i.toNatClampNeg x) h4, aV_int b z he]
        have e1 : gI (sI h (q + 1) i.toNatClampNeg x) (q + 1) = upd (gI h (q + 1)) i.toNatClampNeg x := by
          funext k
          rw [gI_sI]
          unfold upd
          by_cases hk9 : k = i.toNatClampNeg
          · rw [if_pos ⟨rfl, hk9⟩, if_pos hk9]
          · rw [if_neg (fun w => hk9 w.2), if_neg hk9]
        rw [e1]
        rfl
    · exact kk.elim
  · exact kk.elim
theorem sn_lastore {t : Nat} (hd : decode (mC j) pc = .ok (.lastore, 1)) (ht : t < nA) (hk : kA t = .long) (he : kE t = 2) (h0 : t ≠ 0) : Snd l D AC b z L xs G j pc (oLas t (pc + 1)) := by
  intro ls st h Q kk p e R s m args below meth c QQ X E H locs lsR cells slots hP hS hB hL
  unfold oLas at kk
  split at kk
  · split at kk
    · rename_i x i a r hK
      obtain ⟨h1, h2⟩ := and2 hK
      obtain ⟨h3, h4⟩ := isK_spec h1
      have h5 := inL_spec h2
      cases a with
      | zero => rw [hB.2.2.2.2.2.2.2] at h4; omega
      | succ q =>
        simp only [List.map_cons, tvs b z (id_low L xs hB.2.2 h3)]
        have hg := wl_get AC b z h3
        rw [cE_arr AC b z h4, aV_long b z he] at hg
        refine va_last (D := D) X.1 X.2.1 X.2.2.2.2.2.2.2.2.2.1.1 hP (wl_D AC b z h) hS q t hg (by rw [tyL_at AC ht, hk]) h5 hd (fun H1 locs1 hP1 _ hS1 => ?_)
        rw [wl_set AC b z (h' := sL h (q + 1) i.toNatClampNeg x) h3 rfl ?_ (fun c9 h9 => cE_sL AC b z h9)] at hP1
        · exact kk p e R s m args below meth c QQ X E H1 locs1 lsR cells slots hP1 hS1 hB hL
        · rw [cE_arr AC b z (h := sL h (q + 1) i.toNatClampNeg x) h4, aV_long b z he]
          have e1 : gL (sL h (q + 1) i.toNatClampNeg x) (q + 1) = vp_updL (gL h (q + 1)) i.toNatClampNeg x := by
            funext k
            rw [gL_sL]
            unfold vp_updL
            by_cases hk9 : k = i.toNatClampNeg
            · rw [if_pos ⟨rfl, hk9⟩, if_pos hk9]
            · rw [if_neg (fun w => hk9 w.2), if_neg hk9]
          rw [e1]
          rfl
    · exact kk.elim
  · exact kk.elim
theorem sn_aastore {t ci N : Nat} {C : String} {T : u_T} (hd : decode (mC j) pc = .ok (.aastore, 1)) (ht : t < nA) (hk : kA t = .object C) (he : kE t = 1) (h0 : t ≠ 0) (hc : kN[ci]? = some (C, T, N)) (h100 : ci < 100) : Snd l D AC b z L xs G j pc (oAas t ci (pc + 1)) := by
  intro ls st h Q kk p e R s m args below meth c QQ X E H locs lsR cells slots hP hS hB hL
  unfold oAas at kk
  split at kk
  · split at kk
    · rename_i x i a r hK
      obtain ⟨hK, h9⟩ := and2 hK
      obtain ⟨h1, h2⟩ := and2 hK
      obtain ⟨h3, h4⟩ := isK_spec h1
      obtain ⟨h6, h7⟩ := isK_spec h9
      have h5 := inL_spec h2
      obtain ⟨y, rfl⟩ := id_pos L xs hB.2.2 h7 h100
      cases a with
      | zero => rw [hB.2.2.2.2.2.2.2] at h4; omega
      | succ q =>
        simp only [List.map_cons, tvs b z (id_low L xs hB.2.2 h3), tvs b z (id_low L xs hB.2.2 h6)]
        have hg := wl_get AC b z h3
        rw [cE_arr AC b z h4, aV_ref b z he] at hg
        have hy := wl_get AC b z h6
        rw [cE_obj AC b z hc h7 h100] at hy
        refine va_astq (D := D) X.1 X.2.1 X.2.2.2.2.2.2.2.2.2.1.1 hP (wl_D AC b z h) hS q t y ci (r := (C, T, N)) hg (by rw [tyL_at AC ht, hk]) hy hc h5 hd (fun H1 locs1 hP1 _ hS1 => ?_)
        rw [wl_set AC b z (h' := sR h (q + 1) i.toNatClampNeg (some (y + 1))) h3 rfl ?_ (fun c9 h9 => cE_sR AC b z h9)] at hP1
        · exact kk p e R s m args below meth c QQ X E H1 locs1 lsR cells slots hP1 hS1 hB hL
        · rw [cE_arr AC b z (h := sR h (q + 1) i.toNatClampNeg (some (y + 1))) h4, aV_ref b z he]
          have e1 : (fun k => (gR (sR h (q + 1) i.toNatClampNeg (some (y + 1))) (q + 1) k).map (adr b z)) = va_up (fun k => (gR h (q + 1) k).map (adr b z)) i.toNatClampNeg (some (z + y)) := by
            funext k
            rw [gR_sR]
            unfold va_up
            by_cases hk9 : k = i.toNatClampNeg
            · rw [if_pos ⟨rfl, hk9⟩, if_pos hk9]
              exact congrArg some (adr_s b z (id_low L xs hB.2.2 h6))
            · rw [if_neg (fun w => hk9 w.2), if_neg hk9]
          rw [e1]
          rfl
    · exact kk.elim
  · exact kk.elim
theorem sn_alen {t : Nat} (hd : decode (mC j) pc = .ok (.arraylength, 1)) (ht : t < nA) : Snd l D AC b z L xs G j pc (oLen t (pc + 1)) := by
  intro ls st h Q kk p e R s m args below meth c QQ X E H locs lsR cells slots hP hS hB hL
  unfold oLen at kk
  split at kk
  · split at kk
    · rename_i a r hK
      obtain ⟨h3, h4⟩ := isK_spec hK
      have go := kk p e R s m args below meth c QQ X E H locs lsR cells slots hP hS hB hL
      cases a with
      | zero =>
        obtain ⟨-, -, -, -, -, -, -, -, -, h6, h7, -⟩ := X.2.2.2.2.2.2.2.2.2.1
        have hz : z ≤ s.heap.size := X.2.2.2.2.2.2.2.2.2.2.1
        refine va_slen X.1 X.2.1 h6 (Nat.lt_of_lt_of_le h7 hz) (fun q => Nat.not_le.mpr h7 q) hS hd ?_
        rw [hB.2.2.2.2.2.2.1] at go
        exact go
      | succ q =>
        simp only [List.map_cons, tvs b z (id_low L xs hB.2.2 h3)]
        have hg := wl_get AC b z h3
        rw [cE_arr AC b z h4] at hg
        refine va_alen (D := D) X.1 X.2.1 X.2.2.2.2.2.2.2.2.2.1.1 hP q t hg (tyL_at AC ht) rfl hd ?_
        exact go
    · exact kk.elim
  · exact kk.elim
end ARRAYS
section MAKES
variable (l : Launch) (D : va_G) (AC : Nat → ClassId) (b : Nat × (Nat → Nat)) (z L : Nat) (xs : Nat → Int32) (G : Pg) {j pc : Nat}
theorem okR_spec {h : Hp} {n s : Nat} (hr : okR cM sM h n s = true) : nx h + n ≤ cM + 1 ∧ sc h + s ≤ sM := by
  unfold okR at hr
  simp only [Bool.and_eq_true, decide_eq_true_eq] at hr
  exact hr
theorem top_size {s : State} {h : Hp} {H : Heap} {locs : List Loc} {cells slots : Nat} (hz : z ≤ s.heap.size) (hP : va_P D kN (wl AC b z h) H) (hS : va_S (Az z) s.heap H locs) (hB : Bg z L xs s h cells slots) (f2 : H.size ≤ s.heap.size + cells) : H.size = z + (nx h - 1) := by
  have h1 := wl_size D AC b z hP hB.2.2.2.2.1 (Nat.le_trans hz hS.1)
  have h2 := hB.1
  have h3 := hB.2.2.2.2.1
  omega
theorem top_ref {h : Hp} (h1 : 1 ≤ nx h) (h2 : nx h ≤ 1000000000) : Value.ref (z + (nx h - 1)) = toV b z (.inr (.inl (some (nx h)))) := by
  obtain ⟨k, hk⟩ : ∃ k, nx h = k + 1 := ⟨nx h - 1, by omega⟩
  rw [hk, tvs b z (by omega)]
  rfl
theorem nx_low {h : Hp} (hb : Bd L xs h) : nx h ≤ 1000000000 := by
  have h1 : nx h ≤ cM + 1 := hb.1
  have h0 : cM ≤ 100000000 := by decide
  omega
theorem sn_new {ci N idx : Nat} {C : String} {T : u_T} {ty0 : Nat → FieldType} (hd : decode (mC j) pc = .ok (.new idx, 3)) (hc : kN[ci]? = some (C, T, N)) (h100 : ci < 100) (hin : ∀ w ∈ u_ws C T N, w ∈ TBg) (hty : ∀ k, k < N → parseFieldDescriptor (T k).2.2.1 = some (ty0 k)) (hdf : ∀ k, k < N → (kF ci k = 0 ∧ defaultValue (ty0 k) = .int 0) ∨ (kF ci k = 1 ∧ defaultValue (ty0 k) = .null) ∨ (kF ci k = 2 ∧ defaultValue (ty0 k) = .long 0) ∨ (kF ci k = 3 ∧ defaultValue (ty0 k) = .double 0))
    (w1 : Cond.classLink (mO j) idx C ∈ TBg) (w2 : Cond.instantiable C N ∈ TBg) (w3 : Cond.initialized C ∈ TBg) : Snd l D AC b z L xs G j pc (oNew cM sM ci N (pc + 3)) := by
  intro ls st h Q kk p e R s m args below meth c QQ X E H locs lsR cells slots hP hS hB hL
  unfold oNew at kk
  split at kk
  · rename_i hR
    obtain ⟨r1, r2⟩ := okR_spec hR
    have hz : z ≤ s.heap.size := X.2.2.2.2.2.2.2.2.2.2.1
    obtain ⟨-, -, -, g1, g2, -⟩ := X.2.2.2.2.2.2.2.2.2.2
    refine w_facts hz fun f1 f2 f3 => ?_
    have ht := top_size D AC b z L xs hz hP hS hB f2
    obtain ⟨b1, b2, b3⟩ := hB
    refine ms_new (fs := (List.range N).map (fV b z (hN h ci 0 N) (nx h) ci)) X.1 X.2.1 X.2.2.2.2.2.1 hin ty0 hty X.2.2.2.2.1 (X.2.2.2.2.2.1 _ w1) (X.2.2.2.2.2.1 _ w2) (X.2.2.2.2.2.1 _ w3) X.2.2.2.2.2.2.2.2.2.1.1 hP hS hc ?_ (by omega) (by omega) hd (fun H1 hP1 hS1 => ?_)
    · intro k hk
      unfold vp_V
      rw [List.getD_eq_getElem?_getD, List.getElem?_map, List.getElem?_range hk]
      show _ = fV b z (hN h ci 0 N) (nx h) ci k
      unfold fV
      rcases hdf k hk with ⟨q1, q2⟩ | ⟨q1, q2⟩ | ⟨q1, q2⟩ | ⟨q1, q2⟩
      · rw [q1, q2]; show _ = Value.int _; rw [gI_hN, if_pos rfl]
      · rw [q1, q2]; show _ = va_rf _; rw [gR_hN, if_pos rfl]; rfl
      · rw [q1, q2]; show _ = Value.long _; rw [gL_hN, if_pos rfl]
      · rw [q1, q2]; show _ = Value.double _; rw [gD_hN, if_pos rfl]
    · rw [ht, top_ref b z b3.2.2.1 (nx_low L xs b3)]
      refine kk p e R s m args below meth c QQ X E H1 locs lsR (cells + 1) (slots + N) ?_ hS1 ⟨?_, ?_, Bd_hN L xs hR b3⟩ hL
      · rw [wl_push AC b z (h := h) (h' := hN h ci 0 N) b3.2.2.1 rfl (fun a ha => cE_hN AC b z (by omega)), cE_obj AC b z hc (by rw [kd_hN, if_pos rfl]) h100, ← ht]
        exact hP1
      · rw [nx_hN]; omega
      · rw [sc_hN]; omega
  · exact kk.elim
theorem arr_name {AC : Nat → ClassId} {s : State} {t : Nat} (hK : va_K D kN (tyL AC) s) (ht : t < nA) : va_RA s (AC t) (kA t) := (hK.2 t _ (tyL_at AC ht)).2
theorem sn_newarray {t : Nat} {at9 : ArrayType} {ty : FieldType} (hd : decode (mC j) pc = .ok (.newarray at9, 2)) (h9 : newarray.typeOf at9 = ty) (ht : t < nA) (hk : kA t = ty) (hcb : componentBytes ty ≤ 8) (hty : (kE t = 0 ∧ defaultValue ty = .int 0 ∧ (∀ (s : State) (cA : ClassId), va_RA s cA ty → s.vm.findClass ("[" ++ ty.toString) = some cA)) ∨ (kE t = 2 ∧ defaultValue ty = .long 0 ∧ (∀ (s : State) (cA : ClassId), va_RA s cA ty → s.vm.findClass ("[" ++ ty.toString) = some cA))) (w1 : Cond.arrayClass (newarray.typeOf at9) ∈ TBg) : Snd l D AC b z L xs G j pc (oNewA cM sM t (pc + 2)) := by
  intro ls st h Q kk p e R s m args below meth c QQ X E H locs lsR cells slots hP hS hB hL
  unfold oNewA at kk
  split at kk
  · split at kk
    · rename_i i r hR
      obtain ⟨hR, hR3⟩ := and2 hR
      obtain ⟨hR1, hR2⟩ := and2 hR
      obtain ⟨r1, r2⟩ := okR_spec hR3
      have i1 : 0 ≤ i := of_decide_eq_true hR1
      have i2 : i.toNatClampNeg ≤ 1000000 := of_decide_eq_true hR2
      have hz : z ≤ s.heap.size := X.2.2.2.2.2.2.2.2.2.2.1
      obtain ⟨-, -, -, g1, g2, -⟩ := X.2.2.2.2.2.2.2.2.2.2
      refine w_facts hz fun f1 f2 f3 => ?_
      have htp := top_size D AC b z L xs hz hP hS hB f2
      obtain ⟨b1, b2, b3⟩ := hB
      have hra := arr_name D X.2.2.2.2.2.2.2.2.2.1.1 ht
      rw [hk] at hra
      have hfc : s.vm.findClass ("[" ++ ty.toString) = some (AC t) := hty.elim (fun q => q.2.2 s _ hra) (fun q => q.2.2 s _ hra)
      refine ms_newa (D := D) (cl := kN) (a0 := (i.toNatClampNeg, aV b z (hN h (100 + t) i.toNatClampNeg i.toNatClampNeg) (nx h) t)) X.1 X.2.1 (X.2.2.2.2.2.1 _ w1) h9 hfc hP hS ?_ (Int32.not_lt.mpr i1) rfl ?_ (by omega) (by omega) hd (fun H1 hP1 hS1 => ?_)
      · intro cA
        rcases hty with ⟨q1, q2, -⟩ | ⟨q1, q2, -⟩
        · rw [aV_int b z q1, vp_cell_i, q2]
          exact congrArg (arrV cA i.toNatClampNeg) (funext fun k => by rw [gI_hN, if_pos rfl])
        · rw [aV_long b z q1, vp_cell_l, q2]
          exact congrArg (arrV cA i.toNatClampNeg) (funext fun k => by rw [gL_hN, if_pos rfl])
      · have := Nat.mul_le_mul i2 hcb
        omega
      · rw [htp, top_ref b z b3.2.2.1 (nx_low L xs b3)]
        refine kk p e R s m args below meth c QQ X E H1 locs lsR (cells + 1) (slots + i.toNatClampNeg) ?_ hS1 ⟨?_, ?_, Bd_hN L xs hR3 b3⟩ hL
        · rw [wl_push AC b z (h := h) (h' := hN h (100 + t) i.toNatClampNeg i.toNatClampNeg) b3.2.2.1 rfl (fun a ha => cE_hN AC b z (by omega)), cE_arr AC b z (t := t) (by rw [kd_hN, if_pos rfl]), ← htp, ln_hN, if_pos rfl]
          exact hP1
        · rw [nx_hN]; omega
        · rw [sc_hN]; omega
    · exact kk.elim
  · exact kk.elim
theorem sn_anewarray {t idx : Nat} {C : String} (hd : decode (mC j) pc = .ok (.anewarray idx, 3)) (ht : t < nA) (hk : kA t = .object C) (he : kE t = 1) (w1 : Cond.classLink (mO j) idx C ∈ TBg) (w2 : FieldType.object C ∈ kAO) : Snd l D AC b z L xs G j pc (oNewA cM sM t (pc + 3)) := by
  intro ls st h Q kk p e R s m args below meth c QQ X E H locs lsR cells slots hP hS hB hL
  unfold oNewA at kk
  split at kk
  · split at kk
    · rename_i i r hR
      obtain ⟨hR, hR3⟩ := and2 hR
      obtain ⟨hR1, hR2⟩ := and2 hR
      obtain ⟨r1, r2⟩ := okR_spec hR3
      have i1 : 0 ≤ i := of_decide_eq_true hR1
      have i2 : i.toNatClampNeg ≤ 1000000 := of_decide_eq_true hR2
      have hz : z ≤ s.heap.size := X.2.2.2.2.2.2.2.2.2.2.1
      obtain ⟨-, -, -, g1, g2, -⟩ := X.2.2.2.2.2.2.2.2.2.2
      refine w_facts hz fun f1 f2 f3 => ?_
      have htp := top_size D AC b z L xs hz hP hS hB f2
      obtain ⟨b1, b2, b3⟩ := hB
      have hra := arr_name D X.2.2.2.2.2.2.2.2.2.1.1 ht
      rw [hk] at hra
      obtain ⟨kA9, comp, q1, q2, q3, hfc⟩ := hra
      have hov : (Cond.arrayOver (.object C)).before args s = true := X.2.2.2.2.2.2.2.2.2.1.2.2.2.2.2.2.2.2.1 _ w2
      refine ms_newq (D := D) (cl := kN) X.1 X.2.1 X.2.2.2.2.1 (X.2.2.2.2.2.1 _ w1) hov hfc hP hS (Int32.not_lt.mpr i1) rfl (by omega) (by omega) (by omega) hd (fun H1 hP1 hS1 => ?_)
      rw [htp, top_ref b z b3.2.2.1 (nx_low L xs b3)]
      refine kk p e R s m args below meth c QQ X E H1 locs lsR (cells + 1) (slots + i.toNatClampNeg) ?_ hS1 ⟨?_, ?_, Bd_hN L xs hR3 b3⟩ hL
      · rw [wl_push AC b z (h := h) (h' := hN h (100 + t) i.toNatClampNeg i.toNatClampNeg) b3.2.2.1 rfl (fun a ha => cE_hN AC b z (by omega)), cE_arr AC b z (t := t) (by rw [kd_hN, if_pos rfl]), ← htp, ln_hN, if_pos rfl, aV_ref b z he]
        have e1 : (fun k => (gR (hN h (100 + t) i.toNatClampNeg i.toNatClampNeg) (nx h) k).map (adr b z)) = fun _ => none := by
          funext k
          rw [gR_hN, if_pos rfl]
          rfl
        rw [e1]
        exact hP1
      · rw [nx_hN]; omega
      · rw [sc_hN]; omega
    · exact kk.elim
  · exact kk.elim
end MAKES
