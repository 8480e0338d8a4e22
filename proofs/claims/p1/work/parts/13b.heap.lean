/-! more of the heap: nest fields, inherited fields, rows of objects, clones, copies, class objects -/
section MOREHEAP
variable (l : Launch) (D : va_G) (AC : Nat → ClassId) (b : Nat × (Nat → Nat)) (z L : Nat) (xs : Nat → Int32) (G : Pg) {j pc : Nat}
theorem cE_putI {h : Hp} {i k ci N : Nat} {C : String} {T : u_T} {v : Int32} (hc : kN[ci]? = some (C, T, N)) (h3 : kd h (i + 1) = ci) (hf : kF ci k = 0) (h1 : ci < 100) : cE AC b z (sI h (i + 1) k v) (i + 1) = .inr (ci, ((List.range N).map (fV b z h (i + 1) ci)).set k (.int v)) := by
  rw [cE_obj AC b z (h := sI h (i + 1) k v) hc h3 h1, map_set (fun q hq => ?_)]
  unfold fV
  by_cases hqk : q = k
  · subst hqk
    rw [hf, if_pos rfl]
    show Value.int (gI (sI h (i + 1) q v) (i + 1) q) = _
    rw [gI_sI, if_pos ⟨rfl, rfl⟩]
  · rw [if_neg hqk, gI_sI, if_neg (fun w => hqk w.2)]
    rfl
theorem cE_putL {h : Hp} {i k ci N : Nat} {C : String} {T : u_T} {v : Int64} (hc : kN[ci]? = some (C, T, N)) (h3 : kd h (i + 1) = ci) (hf : kF ci k = 2) (h1 : ci < 100) : cE AC b z (sL h (i + 1) k v) (i + 1) = .inr (ci, ((List.range N).map (fV b z h (i + 1) ci)).set k (.long v)) := by
  rw [cE_obj AC b z (h := sL h (i + 1) k v) hc h3 h1, map_set (fun q hq => ?_)]
  unfold fV
  by_cases hqk : q = k
  · subst hqk
    rw [hf, if_pos rfl]
    show Value.long (gL (sL h (i + 1) q v) (i + 1) q) = _
    rw [gL_sL, if_pos ⟨rfl, rfl⟩]
  · rw [if_neg hqk, gL_sL, if_neg (fun w => hqk w.2)]
    rfl
theorem cE_putD {h : Hp} {i k ci N : Nat} {C : String} {T : u_T} {v : UInt64} (hc : kN[ci]? = some (C, T, N)) (h3 : kd h (i + 1) = ci) (hf : kF ci k = 3) (h1 : ci < 100) : cE AC b z (sD h (i + 1) k v) (i + 1) = .inr (ci, ((List.range N).map (fV b z h (i + 1) ci)).set k (.double v)) := by
  rw [cE_obj AC b z (h := sD h (i + 1) k v) hc h3 h1, map_set (fun q hq => ?_)]
  unfold fV
  by_cases hqk : q = k
  · subst hqk
    rw [hf, if_pos rfl]
    show Value.double (gD (sD h (i + 1) q v) (i + 1) q) = _
    rw [gD_sD, if_pos ⟨rfl, rfl⟩]
  · rw [if_neg hqk, gD_sD, if_neg (fun w => hqk w.2)]
    rfl
theorem sn_putB {ci k N idx : Nat} {C : String} {T : u_T} {ty0 : Nat → FieldType} (hd : decode (mC j) pc = .ok (.putfield idx, 3)) (hc : kN[ci]? = some (C, T, N)) (hk : k < N) (hf : kF ci k = 0) (h1 : ci < 100) (hin : ∀ w ∈ u_ws C T N, w ∈ TBg) (hty : ∀ k, k < N → parseFieldDescriptor (T k).2.2.1 = some (ty0 k)) (hnm : ∀ a, a < N → ∀ b, b < N → a ≠ b → (T a).2.1 ≠ (T b).2.1) (hl : Cond.fieldLink (mO j) idx (T k).1 (T k).2.1 (T k).2.2.1 ∈ TBg) (hfin : (T k).2.2.2 = false) (ht : ty0 k = .byte) : Snd l D AC b z L xs G j pc (oPutB ci k (pc + 3)) := by
  intro ls st h Q kk
  unfold oPutB at kk
  split at kk
  · split at kk
    · rename_i x a r hK
      obtain ⟨hK1, hx⟩ := and2 hK
      cases of_decide_eq_true hx
      exact sn_putI0 l D AC b z L xs hc hk hf h1 hin hty hnm hl hfin hd (by rw [ht]; rfl) (by rw [ht]; rfl) hK1 kk
    · exact kk.elim
  · exact kk.elim
theorem sn_putBF {ci k N idx : Nat} {C : String} {T : u_T} {ty0 : Nat → FieldType} (hd : decode (mC j) pc = .ok (.putfield idx, 3)) (hc : kN[ci]? = some (C, T, N)) (hk : k < N) (hf : kF ci k = 0) (h1 : ci < 100) (hin : ∀ w ∈ u_ws C T N, w ∈ TBg) (hty : ∀ k, k < N → parseFieldDescriptor (T k).2.2.1 = some (ty0 k)) (hnm : ∀ a, a < N → ∀ b, b < N → a ≠ b → (T a).2.1 ≠ (T b).2.1) (hl : Cond.fieldLink (mO j) idx (T k).1 (T k).2.1 (T k).2.2.1 ∈ TBg) (hfin : (T k).2.2.2 = true) (hi : (mY j).name = "<init>") (hdecl : (T k).1 = mO j) (ht : ty0 k = .byte) : Snd l D AC b z L xs G j pc (oPutB ci k (pc + 3)) := by
  intro ls st h Q kk p e R s m args below meth c QQ X E H locs lsR cells slots hP hS hB hL
  unfold oPutB at kk
  split at kk
  · split at kk
    · rename_i x a r hK
      obtain ⟨hK1, hx⟩ := and2 hK
      cases of_decide_eq_true hx
      obtain ⟨h2, h3⟩ := isK_spec hK1
      obtain ⟨i, rfl⟩ := id_pos L xs hB.2.2 h3 h1
      simp only [List.map_cons, tvs b z (id_low L xs hB.2.2 h2)]
      have he := wl_get AC b z h2
      rw [cE_obj AC b z hc h3 h1] at he
      refine va_putF (D := D) (ci := ci) (v := .int 0) (ty := ty0 k) (C := C) (T := T) (N := N) X.1 X.2.1 X.2.2.2.2.2.1 hin ty0 hty hnm X.2.2.2.2.1 X.2.2.2.2.2.2.2.2.2.1.1 hP (wl_D AC b z h) hS i he hc k hk (X.2.2.2.2.2.1 _ hl) (fun _ h9 => h9) hfin (X.2.2.2.2.2.2.2.1.trans hi) hdecl (hty k hk) (by rw [ht]; rfl) (by rw [ht]; rfl) (by rw [List.length_map, List.length_range]; exact hk) hd (fun H1 locs1 hP1 _ hS1 => ?_)
      rw [wl_set AC b z (h' := sI h (i + 1) k 0) h2 rfl (cE_putI AC b z hc h3 hf h1) (fun c9 h9 => cE_sI AC b z h9)] at hP1
      exact kk p e R s m args below meth c QQ X E H1 locs1 lsR cells slots hP1 hS1 ⟨hB.1, hB.2.1, Bd_sI L xs (Nat.succ_ne_zero i) hB.2.2⟩ hL
    · exact kk.elim
  · exact kk.elim
theorem sn_getIs {ci k N idx : Nat} {C ref : String} {T : u_T} (hd : decode (mC j) pc = .ok (.getfield idx, 3)) (hc : kN[ci]? = some (C, T, N)) (hk : k < N) (hf : kF ci k = 0) (h1 : ci < 100) (hin : ∀ w ∈ u_ws C T N, w ∈ TBg) (hl : Cond.fieldLink (mO j) idx ref (T k).2.1 (T k).2.2.1 ∈ TBg) (hsm : Cond.sameField ref (T k).1 (T k).2.1 (T k).2.2.1 ∈ TBg) : Snd l D AC b z L xs G j pc (oGetI ci k (pc + 3)) := by
  intro ls st h Q kk p e R s m args below meth c QQ X E H locs lsR cells slots hP hS hB hL
  unfold oGetI at kk
  split at kk
  · split at kk
    · rename_i a r hK
      obtain ⟨h2, h3⟩ := isK_spec hK
      obtain ⟨i, rfl⟩ := id_pos L xs hB.2.2 h3 h1
      simp only [List.map_cons, tvs b z (id_low L xs hB.2.2 h2)]
      have he := wl_get AC b z h2
      rw [cE_obj AC b z hc h3 h1] at he
      refine va_get (D := D) (ci := ci) (C := C) (T := T) (N := N) X.1 X.2.1 X.2.2.2.2.2.1 hin X.2.2.2.2.1 X.2.2.2.2.2.2.2.2.2.1.1 hP i he hc k hk (X.2.2.2.2.2.1 _ hl) (fun x9 h9 => u_same (X.2.2.2.2.2.1 _ hsm) x9 h9) (v := .int (gI h (i + 1) k)) ?_ hd (kk p e R s m args below meth c QQ X E H locs lsR cells slots hP hS hB hL)
      rw [List.getElem?_map, List.getElem?_range hk]
      simp [fV, hf]
    · exact kk.elim
  · exact kk.elim
theorem sn_putIs {ci k N idx : Nat} {C ref : String} {T : u_T} {ty0 : Nat → FieldType} (hd : decode (mC j) pc = .ok (.putfield idx, 3)) (hc : kN[ci]? = some (C, T, N)) (hk : k < N) (hf : kF ci k = 0) (h1 : ci < 100) (hin : ∀ w ∈ u_ws C T N, w ∈ TBg) (hty : ∀ k, k < N → parseFieldDescriptor (T k).2.2.1 = some (ty0 k)) (hnm : ∀ a, a < N → ∀ b, b < N → a ≠ b → (T a).2.1 ≠ (T b).2.1) (hl : Cond.fieldLink (mO j) idx ref (T k).2.1 (T k).2.2.1 ∈ TBg) (hsm : Cond.sameField ref (T k).1 (T k).2.1 (T k).2.2.1 ∈ TBg) (hfin : (T k).2.2.2 = false) (ht : ty0 k = .int) : Snd l D AC b z L xs G j pc (oPutI ci k (pc + 3)) := by
  intro ls st h Q kk p e R s m args below meth c QQ X E H locs lsR cells slots hP hS hB hL
  unfold oPutI at kk
  split at kk
  · split at kk
    · rename_i x a r hK
      obtain ⟨h2, h3⟩ := isK_spec hK
      obtain ⟨i, rfl⟩ := id_pos L xs hB.2.2 h3 h1
      simp only [List.map_cons, tvs b z (id_low L xs hB.2.2 h2)]
      have he := wl_get AC b z h2
      rw [cE_obj AC b z hc h3 h1] at he
      refine va_put (D := D) (ci := ci) (v := .int x) (ty := ty0 k) (C := C) (T := T) (N := N) X.1 X.2.1 X.2.2.2.2.2.1 hin ty0 hty hnm X.2.2.2.2.1 X.2.2.2.2.2.2.2.2.2.1.1 hP (wl_D AC b z h) hS i he hc k hk (X.2.2.2.2.2.1 _ hl) (fun x9 h9 => u_same (X.2.2.2.2.2.1 _ hsm) x9 h9) hfin (hty k hk) (by rw [ht]; rfl) (by rw [ht]; rfl) (by rw [List.length_map, List.length_range]; exact hk) hd (fun H1 locs1 hP1 _ hS1 => ?_)
      rw [wl_set AC b z (h' := sI h (i + 1) k x) h2 rfl (cE_putI AC b z hc h3 hf h1) (fun c9 h9 => cE_sI AC b z h9)] at hP1
      exact kk p e R s m args below meth c QQ X E H1 locs1 lsR cells slots hP1 hS1 ⟨hB.1, hB.2.1, Bd_sI L xs (Nat.succ_ne_zero i) hB.2.2⟩ hL
    · exact kk.elim
  · exact kk.elim
theorem sn_getIN {ci k N idx : Nat} {C host : String} {T : u_T} (hd : decode (mC j) pc = .ok (.getfield idx, 3)) (hc : kN[ci]? = some (C, T, N)) (hk : k < N) (hf : kF ci k = 0) (h1 : ci < 100) (hin : ∀ w ∈ u_ws C T N, w ∈ TBg) (w1 : (mO j, idx, (T k).1, (T k).2.1, (T k).2.2.1, host) ∈ kFn) : Snd l D AC b z L xs G j pc (oGetI ci k (pc + 3)) := by
  intro ls st h Q kk p e R s m args below meth c QQ X E H locs lsR cells slots hP hS hB hL
  have hE := X.2.2.2.2.2.2.2.2.2.1
  have hnw := hE.tl.2.2.2.2.1 (mO j, idx, (T k).1, (T k).2.1, (T k).2.2.1, host) w1
  have hlk : (Cond.fieldLinkNest (mO j) idx (T k).1 (T k).2.1 (T k).2.2.1 host).before args s = true := va_Nw.use rfl hnw
  unfold oGetI at kk
  split at kk
  · split at kk
    · rename_i a r hK
      obtain ⟨h2, h3⟩ := isK_spec hK
      obtain ⟨i, rfl⟩ := id_pos L xs hB.2.2 h3 h1
      simp only [List.map_cons, tvs b z (id_low L xs hB.2.2 h2)]
      have he := wl_get AC b z h2
      rw [cE_obj AC b z hc h3 h1] at he
      refine va_getN (D := D) (ci := ci) (C := C) (T := T) (N := N) X.1 X.2.1 X.2.2.2.2.2.1 hin X.2.2.2.2.1 hE.1 hP i he hc k hk hlk (fun _ h9 => h9) (v := .int (gI h (i + 1) k)) ?_ hd (kk p e R s m args below meth c QQ X E H locs lsR cells slots hP hS hB hL)
      rw [List.getElem?_map, List.getElem?_range hk]
      simp [fV, hf]
    · exact kk.elim
  · exact kk.elim
theorem sn_getLN {ci k N idx : Nat} {C host : String} {T : u_T} (hd : decode (mC j) pc = .ok (.getfield idx, 3)) (hc : kN[ci]? = some (C, T, N)) (hk : k < N) (hf : kF ci k = 2) (h1 : ci < 100) (hin : ∀ w ∈ u_ws C T N, w ∈ TBg) (w1 : (mO j, idx, (T k).1, (T k).2.1, (T k).2.2.1, host) ∈ kFn) : Snd l D AC b z L xs G j pc (oGetL ci k (pc + 3)) := by
  intro ls st h Q kk p e R s m args below meth c QQ X E H locs lsR cells slots hP hS hB hL
  have hE := X.2.2.2.2.2.2.2.2.2.1
  have hnw := hE.tl.2.2.2.2.1 (mO j, idx, (T k).1, (T k).2.1, (T k).2.2.1, host) w1
  have hlk : (Cond.fieldLinkNest (mO j) idx (T k).1 (T k).2.1 (T k).2.2.1 host).before args s = true := va_Nw.use rfl hnw
  unfold oGetL at kk
  split at kk
  · split at kk
    · rename_i a r hK
      obtain ⟨h2, h3⟩ := isK_spec hK
      obtain ⟨i, rfl⟩ := id_pos L xs hB.2.2 h3 h1
      simp only [List.map_cons, tvs b z (id_low L xs hB.2.2 h2)]
      have he := wl_get AC b z h2
      rw [cE_obj AC b z hc h3 h1] at he
      refine va_getN (D := D) (ci := ci) (C := C) (T := T) (N := N) X.1 X.2.1 X.2.2.2.2.2.1 hin X.2.2.2.2.1 hE.1 hP i he hc k hk hlk (fun _ h9 => h9) (v := .long (gL h (i + 1) k)) ?_ hd (kk p e R s m args below meth c QQ X E H locs lsR cells slots hP hS hB hL)
      rw [List.getElem?_map, List.getElem?_range hk]
      simp [fV, hf]
    · exact kk.elim
  · exact kk.elim
theorem sn_getDN {ci k N idx : Nat} {C host : String} {T : u_T} (hd : decode (mC j) pc = .ok (.getfield idx, 3)) (hc : kN[ci]? = some (C, T, N)) (hk : k < N) (hf : kF ci k = 3) (h1 : ci < 100) (hin : ∀ w ∈ u_ws C T N, w ∈ TBg) (w1 : (mO j, idx, (T k).1, (T k).2.1, (T k).2.2.1, host) ∈ kFn) : Snd l D AC b z L xs G j pc (oGetD ci k (pc + 3)) := by
  intro ls st h Q kk p e R s m args below meth c QQ X E H locs lsR cells slots hP hS hB hL
  have hE := X.2.2.2.2.2.2.2.2.2.1
  have hnw := hE.tl.2.2.2.2.1 (mO j, idx, (T k).1, (T k).2.1, (T k).2.2.1, host) w1
  have hlk : (Cond.fieldLinkNest (mO j) idx (T k).1 (T k).2.1 (T k).2.2.1 host).before args s = true := va_Nw.use rfl hnw
  unfold oGetD at kk
  split at kk
  · split at kk
    · rename_i a r hK
      obtain ⟨h2, h3⟩ := isK_spec hK
      obtain ⟨i, rfl⟩ := id_pos L xs hB.2.2 h3 h1
      simp only [List.map_cons, tvs b z (id_low L xs hB.2.2 h2)]
      have he := wl_get AC b z h2
      rw [cE_obj AC b z hc h3 h1] at he
      refine va_getN (D := D) (ci := ci) (C := C) (T := T) (N := N) X.1 X.2.1 X.2.2.2.2.2.1 hin X.2.2.2.2.1 hE.1 hP i he hc k hk hlk (fun _ h9 => h9) (v := .double (gD h (i + 1) k)) ?_ hd (kk p e R s m args below meth c QQ X E H locs lsR cells slots hP hS hB hL)
      rw [List.getElem?_map, List.getElem?_range hk]
      simp [fV, hf]
    · exact kk.elim
  · exact kk.elim
theorem sn_putLN {ci k N idx : Nat} {C host : String} {T : u_T} {ty0 : Nat → FieldType} (hd : decode (mC j) pc = .ok (.putfield idx, 3)) (hc : kN[ci]? = some (C, T, N)) (hk : k < N) (hf : kF ci k = 2) (h1 : ci < 100) (hin : ∀ w ∈ u_ws C T N, w ∈ TBg) (hty : ∀ k, k < N → parseFieldDescriptor (T k).2.2.1 = some (ty0 k)) (hnm : ∀ a, a < N → ∀ b, b < N → a ≠ b → (T a).2.1 ≠ (T b).2.1) (w1 : (mO j, idx, (T k).1, (T k).2.1, (T k).2.2.1, host) ∈ kFn) (hfin : (T k).2.2.2 = false) (ht : ty0 k = .long) : Snd l D AC b z L xs G j pc (oPutL ci k (pc + 3)) := by
  intro ls st h Q kk p e R s m args below meth c QQ X E H locs lsR cells slots hP hS hB hL
  have hE := X.2.2.2.2.2.2.2.2.2.1
  have hnw := hE.tl.2.2.2.2.1 (mO j, idx, (T k).1, (T k).2.1, (T k).2.2.1, host) w1
  have hlk : (Cond.fieldLinkNest (mO j) idx (T k).1 (T k).2.1 (T k).2.2.1 host).before args s = true := va_Nw.use rfl hnw
  unfold oPutL at kk
  split at kk
  · split at kk
    · rename_i x a r hK
      obtain ⟨h2, h3⟩ := isK_spec hK
      obtain ⟨i, rfl⟩ := id_pos L xs hB.2.2 h3 h1
      simp only [List.map_cons, tvs b z (id_low L xs hB.2.2 h2)]
      have he := wl_get AC b z h2
      rw [cE_obj AC b z hc h3 h1] at he
      refine va_putN (D := D) (ci := ci) (v := .long x) (ty := ty0 k) (C := C) (T := T) (N := N) X.1 X.2.1 X.2.2.2.2.2.1 hin ty0 hty hnm X.2.2.2.2.1 hE.1 hP (wl_D AC b z h) hS i he hc k hk hlk (fun _ h9 => h9) hfin (hty k hk) (by rw [ht]; rfl) (by rw [ht]; rfl) (by rw [List.length_map, List.length_range]; exact hk) hd (fun H1 locs1 hP1 _ hS1 => ?_)
      rw [wl_set AC b z (h' := sL h (i + 1) k x) h2 rfl (cE_putL AC b z hc h3 hf h1) (fun c9 h9 => cE_sL AC b z h9)] at hP1
      exact kk p e R s m args below meth c QQ X E H1 locs1 lsR cells slots hP1 hS1 hB hL
    · exact kk.elim
  · exact kk.elim
theorem sn_putDN {ci k N idx : Nat} {C host : String} {T : u_T} {ty0 : Nat → FieldType} (hd : decode (mC j) pc = .ok (.putfield idx, 3)) (hc : kN[ci]? = some (C, T, N)) (hk : k < N) (hf : kF ci k = 3) (h1 : ci < 100) (hin : ∀ w ∈ u_ws C T N, w ∈ TBg) (hty : ∀ k, k < N → parseFieldDescriptor (T k).2.2.1 = some (ty0 k)) (hnm : ∀ a, a < N → ∀ b, b < N → a ≠ b → (T a).2.1 ≠ (T b).2.1) (w1 : (mO j, idx, (T k).1, (T k).2.1, (T k).2.2.1, host) ∈ kFn) (hfin : (T k).2.2.2 = false) (ht : ty0 k = .double) : Snd l D AC b z L xs G j pc (oPutD ci k (pc + 3)) := by
  intro ls st h Q kk p e R s m args below meth c QQ X E H locs lsR cells slots hP hS hB hL
  have hE := X.2.2.2.2.2.2.2.2.2.1
  have hnw := hE.tl.2.2.2.2.1 (mO j, idx, (T k).1, (T k).2.1, (T k).2.2.1, host) w1
  have hlk : (Cond.fieldLinkNest (mO j) idx (T k).1 (T k).2.1 (T k).2.2.1 host).before args s = true := va_Nw.use rfl hnw
  unfold oPutD at kk
  split at kk
  · split at kk
    · rename_i x a r hK
      obtain ⟨h2, h3⟩ := isK_spec hK
      obtain ⟨i, rfl⟩ := id_pos L xs hB.2.2 h3 h1
      simp only [List.map_cons, tvs b z (id_low L xs hB.2.2 h2)]
      have he := wl_get AC b z h2
      rw [cE_obj AC b z hc h3 h1] at he
      refine va_putN (D := D) (ci := ci) (v := .double x) (ty := ty0 k) (C := C) (T := T) (N := N) X.1 X.2.1 X.2.2.2.2.2.1 hin ty0 hty hnm X.2.2.2.2.1 hE.1 hP (wl_D AC b z h) hS i he hc k hk hlk (fun _ h9 => h9) hfin (hty k hk) (by rw [ht]; rfl) (by rw [ht]; rfl) (by rw [List.length_map, List.length_range]; exact hk) hd (fun H1 locs1 hP1 _ hS1 => ?_)
      rw [wl_set AC b z (h' := sD h (i + 1) k x) h2 rfl (cE_putD AC b z hc h3 hf h1) (fun c9 h9 => cE_sD AC b z h9)] at hP1
      exact kk p e R s m args below meth c QQ X E H1 locs1 lsR cells slots hP1 hS1 hB hL
    · exact kk.elim
  · exact kk.elim
/-- each class of an object can lie in a row of Objects -/
theorem kany : ∀ ci : Nat, ci < 16 → ∃ q : vw_C, kN[ci]? = some q ∧ (q.1, "java/lang/Object") ∈ kCast
  | 0, _ => ⟨_, rfl, by decide +kernel⟩
  | 1, _ => ⟨_, rfl, by decide +kernel⟩
  | 2, _ => ⟨_, rfl, by decide +kernel⟩
  | 3, _ => ⟨_, rfl, by decide +kernel⟩
  | 4, _ => ⟨_, rfl, by decide +kernel⟩
  | 5, _ => ⟨_, rfl, by decide +kernel⟩
  | 6, _ => ⟨_, rfl, by decide +kernel⟩
  | 7, _ => ⟨_, rfl, by decide +kernel⟩
  | 8, _ => ⟨_, rfl, by decide +kernel⟩
  | 9, _ => ⟨_, rfl, by decide +kernel⟩
  | 10, _ => ⟨_, rfl, by decide +kernel⟩
  | 11, _ => ⟨_, rfl, by decide +kernel⟩
  | 12, _ => ⟨_, rfl, by decide +kernel⟩
  | 13, _ => ⟨_, rfl, by decide +kernel⟩
  | 14, _ => ⟨_, rfl, by decide +kernel⟩
  | 15, _ => ⟨_, rfl, by decide +kernel⟩
  | n + 16, h => absurd h (by omega)
theorem kanyI : ("[I", "java/lang/Object") ∈ kCast := by decide +kernel
theorem any_of {s : State} {h : Hp} {H : Heap} (hE : Env0 D AC b z L xs s) (hb : Bd L xs h) (hP : va_P D kN (wl AC b z h) H) {y : Nat} (hy : isAny h (some y) = true) : va_Any "java/lang/Object" s H (adr b z y) := by
  unfold isAny at hy
  simp only [Bool.and_eq_true, decide_eq_true_eq] at hy
  obtain ⟨⟨h2, h1⟩, h3⟩ := hy
  obtain ⟨i, rfl⟩ : ∃ i, y = i + 1 := ⟨y - 1, by omega⟩
  rw [adr_s b z (id_low L xs hb h2)]
  have he := wl_get AC b z h2
  rcases h3 with h3 | h3
  · obtain ⟨⟨C, T, N⟩, hc, hcast⟩ := kany _ h3
    rw [cE_obj AC b z hc rfl (by omega)] at he
    exact va_rAny hE.1 hP he hc (fun comp c0 => vb_asgC (hE.2.2.2.2.1 _ hcast) comp c0)
  · rw [cE_arr AC b z (t := 0) h3] at he
    have hra := arr_name D hE.1 (t := 0) (by decide)
    obtain ⟨kC, hkC, -⟩ := Vm.findClass_spec (show s.vm.findClass "[I" = some (AC 0) from hra)
    refine ⟨_, hP i _ he, ?_, ⟨kC, ?_⟩, fun comp hcomp => ?_⟩
    · rw [aV_int b z (show kE 0 = 0 from rfl)]; rfl
    · rw [aV_int b z (show kE 0 = 0 from rfl)]; exact hkC
    · rw [aV_int b z (show kE 0 = 0 from rfl)]
      exact vb_asgC (hE.2.2.2.2.1 _ kanyI) comp (AC 0) hcomp hra
theorem upR {h : Hp} {q i : Nat} {v : Option Nat} : (fun k => (gR (sR h q i v) q k).map (adr b z)) = va_up (fun k => (gR h q k).map (adr b z)) i (v.map (adr b z)) := by
  funext k
  rw [gR_sR]
  unfold va_up
  by_cases hk9 : k = i
  · rw [if_pos ⟨rfl, hk9⟩, if_pos hk9]
  · rw [if_neg (fun w => hk9 w.2), if_neg hk9]
theorem sn_aasX {t : Nat} (hd : decode (mC j) pc = .ok (.aastore, 1)) (ht : t < nA) (hk : kA t = .object "java/lang/Object") (he : kE t = 1) (h0 : t ≠ 0) : Snd l D AC b z L xs G j pc (oAasX t (pc + 1)) := by
  intro ls st h Q kk p e R s m args below meth c QQ X E H locs lsR cells slots hP hS hB hL
  have hE := X.2.2.2.2.2.2.2.2.2.1
  unfold oAasX at kk
  split at kk
  · split at kk
    · rename_i x i a r hK
      obtain ⟨hK, h9⟩ := and2 hK
      obtain ⟨h1, h2⟩ := and2 hK
      obtain ⟨h3, h4⟩ := isK_spec h1
      have h5 := inL_spec h2
      cases a with
      | zero => rw [hB.2.2.2.2.2.2.2] at h4; omega
      | succ q =>
        simp only [List.map_cons, tvs b z (id_low L xs hB.2.2 h3)]
        have hg := wl_get AC b z h3
        rw [cE_arr AC b z h4, aV_ref b z he] at hg
        have fin : ∀ v : Option Nat, cE AC b z (sR h (q + 1) i.toNatClampNeg v) (q + 1) = .inl (AC t, ln h (q + 1), .inr (.inr (.inr (.inr (va_up (fun k => (gR h (q + 1) k).map (adr b z)) i.toNatClampNeg (v.map (adr b z))))))) := fun v => by
          rw [cE_arr AC b z (h := sR h (q + 1) i.toNatClampNeg v) h4, aV_ref b z he, upR]
          rfl
        cases x with
        | none =>
          refine va_astqN (D := D) X.1 X.2.1 hE.1 hP (wl_D AC b z h) hS q t hg (by rw [tyL_at AC ht, hk]) h5 hd (fun H1 locs1 hP1 _ hS1 => ?_)
          have f1 := fin none
          rw [Option.map_none] at f1
          rw [wl_set AC b z (h' := sR h (q + 1) i.toNatClampNeg none) h3 rfl f1 (fun c9 h9 => cE_sR AC b z h9)] at hP1
          exact kk p e R s m args below meth c QQ X E H1 locs1 lsR cells slots hP1 hS1 hB hL
        | some y =>
          refine va_astqM (D := D) (E := "java/lang/Object") (v := adr b z y) X.1 X.2.1 hE.1 hP (wl_D AC b z h) hS q t hg (by rw [tyL_at AC ht, hk]) (any_of D AC b z L xs hE hB.2.2 hP h9) h5 hd (fun H1 locs1 hP1 _ hS1 => ?_)
          have f1 := fin (some y)
          rw [Option.map_some] at f1
          rw [wl_set AC b z (h' := sR h (q + 1) i.toNatClampNeg (some y)) h3 rfl f1 (fun c9 h9 => cE_sR AC b z h9)] at hP1
          exact kk p e R s m args below meth c QQ X E H1 locs1 lsR cells slots hP1 hS1 hB hL
    · exact kk.elim
  · exact kk.elim
end MOREHEAP
