/-! the heap's handlers are sound -/
section HEAPLAWS
variable (AC : Nat → ClassId) (b : Nat × (Nat → Nat)) (z : Nat)
theorem isK_spec {h : Hp} {a c : Nat} (hk : isK h a c = true) : a < nx h ∧ kd h a = c := by
  unfold isK at hk
  simp only [Bool.and_eq_true, decide_eq_true_eq] at hk
  exact hk
theorem inL_spec {h : Hp} {a : Nat} {i : Int32} (hk : inL h a i = true) : vp_in i (ln h a) := by
  unfold inL at hk
  simp only [Bool.and_eq_true, decide_eq_true_eq] at hk
  intro q
  rcases q with q | q
  · exact absurd hk.1 (Int32.not_le.mpr q)
  · omega
theorem cE_obj {h : Hp} {a ci N : Nat} {C : String} {T : u_T} (hc : kN[ci]? = some (C, T, N)) (hk : kd h a = ci) (h1 : ci < 100) : cE AC b z h a = .inr (ci, (List.range N).map (fV b z h a ci)) := by
  unfold cE
  rw [hk, if_pos h1]
  have e : kSz ci = N := by unfold kSz; rw [hc]; rfl
  rw [e]
theorem cE_arr {h : Hp} {a t : Nat} (hk : kd h a = 100 + t) : cE AC b z h a = .inl (AC t, ln h a, aV b z h a t) := by
  unfold cE
  rw [hk, if_neg (by omega), show 100 + t - 100 = t by omega]
theorem cE_cong {h h' : Hp} {a : Nat} (h1 : kd h' a = kd h a) (h2 : ln h' a = ln h a) (h3 : gI h' a = gI h a) (h4 : gR h' a = gR h a) (h5 : gL h' a = gL h a) (h6 : gD h' a = gD h a) : cE AC b z h' a = cE AC b z h a := by
  have e1 : fV b z h' a = fV b z h a := by
    funext ci k
    unfold fV
    rw [h3, h4, h5, h6]
  have e2 : aV b z h' a = aV b z h a := by
    funext t
    unfold aV
    rw [h3, h4, h5, h6]
  unfold cE
  rw [h1, h2, e1, e2]
theorem up2_ne {α : Type} {f : Nat → Nat → α} {a k c : Nat} {v : α} (h : c ≠ a) : up2 f a k v c = f c := by
  funext j
  unfold up2
  rw [if_neg (fun q => h q.1)]
theorem map_set {α : Type} {N k : Nat} {f f' : Nat → α} {v : α} (h : ∀ i, i < N → f' i = if i = k then v else f i) : (List.range N).map f' = ((List.range N).map f).set k v := by
  apply List.ext_getElem?
  intro i
  by_cases hi : i < N
  · rw [List.getElem?_map, List.getElem?_range hi]
    by_cases hk : i = k
    · subst hk
      rw [List.getElem?_set_self (by rw [List.length_map, List.length_range]; exact hi)]
      simp [h i hi]
    · rw [List.getElem?_set_ne (fun q => hk q.symm), List.getElem?_map, List.getElem?_range hi]
      simp [h i hi, hk]
  · rw [List.getElem?_eq_none (by rw [List.length_map, List.length_range]; omega), List.getElem?_eq_none (by rw [List.length_set, List.length_map, List.length_range]; omega)]
theorem cE_sI {h : Hp} {a k c : Nat} {v : Int32} (hc : c ≠ a) : cE AC b z (sI h a k v) c = cE AC b z h c := cE_cong AC b z rfl rfl (up2_ne hc) rfl rfl rfl
theorem cE_sR {h : Hp} {a k c : Nat} {v : Option Nat} (hc : c ≠ a) : cE AC b z (sR h a k v) c = cE AC b z h c := cE_cong AC b z rfl rfl rfl (up2_ne hc) rfl rfl
theorem cE_sL {h : Hp} {a k c : Nat} {v : Int64} (hc : c ≠ a) : cE AC b z (sL h a k v) c = cE AC b z h c := cE_cong AC b z rfl rfl rfl rfl (up2_ne hc) rfl
theorem cE_sD {h : Hp} {a k c : Nat} {v : UInt64} (hc : c ≠ a) : cE AC b z (sD h a k v) c = cE AC b z h c := cE_cong AC b z rfl rfl rfl rfl rfl (up2_ne hc)
theorem row0_ne {α : Type} {f : Nat → Nat → α} {a c : Nat} {v : α} (h : c ≠ a) : row0 f a v c = f c := by
  funext j
  unfold row0
  rw [if_neg h]
theorem cE_hN {h : Hp} {k n s c : Nat} (hc : c ≠ nx h) : cE AC b z (hN h k n s) c = cE AC b z h c :=
  cE_cong AC b z (by rw [kd_hN, if_neg hc]) (by rw [ln_hN, if_neg hc]) (row0_ne hc) (row0_ne hc) (row0_ne hc) (row0_ne hc)
variable (L : Nat) (xs : Nat → Int32)
theorem Bd_sI {h : Hp} {a k : Nat} {v : Int32} (ha : a ≠ 0) (hb : Bd L xs h) : Bd L xs (sI h a k v) := by
  obtain ⟨h1, h2, h3, h4, h5, h6⟩ := hb
  exact ⟨h1, h2, h3, fun j hj => by rw [gI_sI, if_neg (fun q => ha q.1.symm)]; exact h4 j hj, h5, h6⟩
theorem Bd_hN {h : Hp} {k n s : Nat} (hr : okR cM sM h 1 s = true) (hb : Bd L xs h) : Bd L xs (hN h k n s) := by
  obtain ⟨h1, h2, h3, h4, h5, h6⟩ := hb
  unfold okR at hr
  simp only [Bool.and_eq_true, decide_eq_true_eq] at hr
  have hn : (0 : Nat) ≠ nx h := by omega
  exact ⟨hr.1, hr.2, Nat.le_add_left 1 _, fun j hj => by rw [gI_hN, if_neg hn]; exact h4 j hj, by rw [ln_hN, if_neg hn]; exact h5, by rw [kd_hN, if_neg hn]; exact h6⟩
end HEAPLAWS
section HEAPROWS
variable {p : Program} {l : Launch} {e : Env} {R : Room} {s : State} {m : MethodId} {args : Array Value} {below : List Frame} {meth : Method} {c : Code} {H : Heap} {locs : List Loc} {cells slots : Nat} {Q : State → Prop}
variable {cc : ByteArray} {pc : Nat} {ls : Array Slot} {rest : List Value} {D : va_G} {cl : List vw_C} {A : Nat → Prop} {a : Nat} {tys : List (ClassId × FieldType)} {ws : va_W} {H0 : Heap}
theorem ms_new {c0 : Code} (hexec : p.tables.exec = Jvm.exec) (hb : c0.code = cc) {own C : String} {T : u_T} {N ci index : Nat} {Ts : List Cond} (hts : ∀ w ∈ Ts, w.before args s = true) (hin : ∀ w ∈ u_ws C T N, w ∈ Ts) (ty : Nat → FieldType) (hty : ∀ k, k < N → parseFieldDescriptor (T k).2.2.1 = some (ty k)) (hown : s.vm.findClass own = some m.cls) (hcl : (Cond.classLink own index C).before args s = true) (hinst : (Cond.instantiable C N).before args s = true) (hini : (Cond.initialized C).before args s = true)
    (hK : va_K D cl tys s) (hP : va_P D cl ws H) (hS : va_S A H0 H locs) (hc : cl[ci]? = some (C, T, N)) {fs : List Value} (hfs : ∀ j, j < N → defaultValue (ty j) = vp_V fs j) (hcells : cells + 1 ≤ R.cells) (hslots : slots + N ≤ R.slots) (hdg : decode cc pc = .ok (.new index, 3))
    (kk : ∀ (H1 : Heap), va_P D cl (ws ++ [(H.size, .inr (ci, fs))]) H1 → va_S A H0 H1 locs →
      W p l e R s m args below meth c0 H1 locs (cells + 1) (slots + N) Q (F0 m (pc + 3) ls (.ref H.size :: rest))) : W p l e R s m args below meth c0 H locs cells slots Q (F0 m pc ls rest) := by
  have hKn := hK.1 ci _ hc
  refine W.newcK hexec hb hown hcl hinst hini rfl hdg hcells hslots hKn.2.1 rfl fun H1 kC hkC e1 z1 o1 => ?_
  have hk : ∀ (k : Nat) (x : Nat × va_E), ws[k]? = some x → H1[x.1]? = H[x.1]? := fun k x hx => o1 x.1 ((hP k x hx).lt)
  refine kk H1 ((hP.kept hk).app (fun k x hx => ?_)) ⟨Nat.le_trans hS.1 (by omega), fun x h1 h2 => (o1 x (Nat.lt_of_lt_of_le h1 hS.1)).trans (hS.2.1 x h1 h2), hS.2.2⟩
  have hz : k < 1 := (List.getElem?_eq_some_iff.mp hx).1
  rw [show k = 0 by omega] at hx
  cases hx
  exact ⟨_, hc, (u_born ty hts hin hKn hkC e1 hty).to hfs⟩
theorem ms_newa (hexec : p.tables.exec = Jvm.exec) (hb : c.code = cc) {atype : ArrayType} (harr : (Cond.arrayClass (newarray.typeOf atype)).before args s = true) {ty : FieldType} (hty : newarray.typeOf atype = ty) {cA : ClassId} (hcA : s.vm.findClass ("[" ++ ty.toString) = some cA) (hP : va_P D cl ws H) (hS : va_S A H0 H locs)
    {n : Int32} {N' : Nat} {a0 : vp_A} (ha : ∀ cA : ClassId, vp_cell cA a0 = arrV cA N' (fun _ => defaultValue ty)) (hn : ¬ n < 0) (hN : n.toNatClampNeg = N') (hbytes : N' * componentBytes ty ≤ 536870912) (hcells : cells + 1 ≤ R.cells) (hslots : slots + N' ≤ R.slots) (hdg : decode cc pc = .ok (.newarray atype, 2))
    (kk : ∀ (H1 : Heap), va_P D cl (ws ++ [(H.size, .inl (cA, a0))]) H1 → va_S A H0 H1 locs →
      W p l e R s m args below meth c H1 locs (cells + 1) (slots + N') Q (F0 m (pc + 2) ls (.ref H.size :: rest))) : W p l e R s m args below meth c H locs cells slots Q (F0 m pc ls (.int n :: rest)) := by
  subst hty
  refine va_newaK hexec hb harr rfl hdg rfl hn hN hbytes hcells hslots rfl fun H1 cB e1 z1 o1 hAr hNm => ?_
  have hk : ∀ (k : Nat) (x : Nat × va_E), ws[k]? = some x → H1[x.1]? = H[x.1]? := fun k x hx => o1 x.1 ((hP k x hx).lt)
  cases Option.some.inj (hNm.symm.trans hcA)
  refine kk H1 ((hP.kept hk).app (fun k x hx => ?_)) ⟨Nat.le_trans hS.1 (by omega), fun x h1 h2 => (o1 x (Nat.lt_of_lt_of_le h1 hS.1)).trans (hS.2.1 x h1 h2), hS.2.2⟩
  have hz : k < 1 := (List.getElem?_eq_some_iff.mp hx).1
  rw [show k = 0 by omega] at hx
  cases hx
  show H1[H.size]? = some (vp_cell _ _)
  rw [ha]
  exact e1
theorem ms_newq (hexec : p.tables.exec = Jvm.exec) (hb : c.code = cc) {own C : String} {index : Nat} (hown : s.vm.findClass own = some m.cls) (hclink : (Cond.classLink own index C).before args s = true) (hover : (Cond.arrayOver (.object C)).before args s = true) {cA : ClassId} (hcA : s.vm.findClass ("[" ++ (FieldType.object C).toString) = some cA) (hP : va_P D cl ws H) (hS : va_S A H0 H locs)
    {n : Int32} {N' : Nat} (hn : ¬ n < 0) (hN : n.toNatClampNeg = N') (hbytes : N' * 4 ≤ 536870912) (hcells : cells + 1 ≤ R.cells) (hslots : slots + N' ≤ R.slots) (hdg : decode cc pc = .ok (.anewarray index, 3))
    (kk : ∀ (H1 : Heap), va_P D cl (ws ++ [(H.size, .inl (cA, N', .inr (.inr (.inr (.inr (fun _ => none))))))]) H1 → va_S A H0 H1 locs →
      W p l e R s m args below meth c H1 locs (cells + 1) (slots + N') Q (F0 m (pc + 3) ls (.ref H.size :: rest))) : W p l e R s m args below meth c H locs cells slots Q (F0 m pc ls (.int n :: rest)) := by
  subst hN
  refine W.anew hexec hb hown hclink hover rfl hdg rfl hn hbytes hcells hslots fun cB kA comp f1 f2 f3 f4 => ?_
  cases Option.some.inj (f1.symm.trans hcA)
  generalize hH1 : H.push ({ cls := cA, slots := Array.replicate n.toNatClampNeg .null, vm := .none } : Cell) = H1
  have z1 : H1.size = H.size + 1 := by rw [← hH1, Array.size_push]
  have e1 : H1[H.size]? = some (arrV cA n.toNatClampNeg (fun _ => .null)) := by rw [← hH1, Array.getElem?_push_size, ← arrV_new]
  have o1 : ∀ q : Nat, q < H.size → H1[q]? = H[q]? := fun q hq => by rw [← hH1, Array.getElem?_push, if_neg (Nat.ne_of_lt hq)]
  have hk : ∀ (k : Nat) (x : Nat × va_E), ws[k]? = some x → H1[x.1]? = H[x.1]? := fun k x hx => o1 x.1 ((hP k x hx).lt)
  refine kk H1 ((hP.kept hk).app (fun k x hx => ?_)) ⟨Nat.le_trans hS.1 (by omega), fun x h1 h2 => (o1 x (Nat.lt_of_lt_of_le h1 hS.1)).trans (hS.2.1 x h1 h2), hS.2.2⟩
  have hz : k < 1 := (List.getElem?_eq_some_iff.mp hx).1
  rw [show k = 0 by omega] at hx
  cases hx
  show H1[H.size]? = some (vp_cell _ _)
  rw [vp_cell_q]
  exact e1
theorem ms_aldq (hexec : p.tables.exec = Jvm.exec) (hb : c.code = cc) (hK : va_K D cl tys s) (hP : va_P D cl ws H) (q0 t0 : Nat) {cA : ClassId} {ty : FieldType} (hr : ty.isReference = true) {n : Nat} {f : Nat → Option Nat} (ha : ws[q0]? = some (a, .inl (cA, n, .inr (.inr (.inr (.inr f)))))) (ht : tys[t0]? = some (cA, ty)) {i : Int32} (hin : vp_in i n) (hdg : decode cc pc = .ok (.aaload, 1))
    (kk : W p l e R s m args below meth c H locs cells slots Q (F0 m (pc + 1) ls (va_rf (f i.toNatClampNeg) :: rest))) : W p l e R s m args below meth c H locs cells slots Q (F0 m pc ls (.int i :: .ref a :: rest)) := by
  have hlt : i.toNatClampNeg < n := Nat.not_le.mp fun q => hin (Or.inr q)
  exact W.aald (v := va_rf (f i.toNatClampNeg)) (ty := ty) hexec hb (hP q0 _ ha) ((hK.2 t0 _ ht).1 n (fun j => va_rf (f j))) hr (fun q => by cases q) (by show ¬ (i < 0 ∨ (arrV _ _ _).slots.size ≤ _); rw [arrV_size]; exact hin) (by show (arrV _ _ _).slots[_]? = _; rw [arrV_read _ _ hlt]) rfl rfl hdg kk
end HEAPROWS
section HEAPOPS
variable (l : Launch) (D : va_G) (AC : Nat → ClassId) (b : Nat × (Nat → Nat)) (z L : Nat) (xs : Nat → Int32) (G : Pg) {j pc : Nat}
theorem tyL_at {t : Nat} (h : t < nA) : (tyL AC)[t]? = some (AC t, kA t) := by
  unfold tyL
  rw [List.getElem?_map, List.getElem?_range h]
  rfl
theorem id_pos {h : Hp} {a ci : Nat} (hb : Bd L xs h) (hk : kd h a = ci) (h1 : ci < 100) : ∃ i, a = i + 1 := by
  cases a with
  | zero => rw [hb.2.2.2.2.2] at hk; omega
  | succ i => exact ⟨i, rfl⟩
theorem id_low {h : Hp} {i : Nat} (hb : Bd L xs h) (h2 : i + 1 < nx h) : i < 1000000000 := by
  have h1 : nx h ≤ cM + 1 := hb.1
  have h0 : cM ≤ 100000000 := by decide
  omega
theorem sn_getI {ci k N idx : Nat} {C : String} {T : u_T} (hd : decode (mC j) pc = .ok (.getfield idx, 3)) (hc : kN[ci]? = some (C, T, N)) (hk : k < N) (hf : kF ci k = 0) (h1 : ci < 100) (hin : ∀ w ∈ u_ws C T N, w ∈ TBg) (hl : Cond.fieldLink (mO j) idx (T k).1 (T k).2.1 (T k).2.2.1 ∈ TBg) : Snd l D AC b z L xs G j pc (oGetI ci k (pc + 3)) := by
  intro ls st h Q kk p e R s m args below meth c QQ X E H locs lsR cells slots hP hS hB hL
  unfold oGetI at kk
  split at kk
  · split at kk
    · rename_i a r hK
      obtain ⟨h2, h3⟩ := isK_spec hK
      obtain ⟨i, rfl⟩ := id_pos L xs hB.2.2 h3 h1
      simp only [List.map_cons, tvs b z (id_low L xs hB.2.2 h2)]
      have he := wl_get AC b z h2
      rw [cE_obj AC b z hc h3 h1] at he
      refine va_get (D := D) (ci := ci) (C := C) (T := T) (N := N) X.1 X.2.1 X.2.2.2.2.2.1 hin X.2.2.2.2.1 X.2.2.2.2.2.2.2.2.2.1.1 hP i he hc k hk (X.2.2.2.2.2.1 _ hl) (fun _ h9 => h9) (v := .int (gI h (i + 1) k)) ?_ hd (kk p e R s m args below meth c QQ X E H locs lsR cells slots hP hS hB hL)
      rw [List.getElem?_map, List.getElem?_range hk]
      simp [fV, hf]
    · exact kk.elim
  · exact kk.elim
theorem sn_getR {ci k N idx : Nat} {C : String} {T : u_T} (hd : decode (mC j) pc = .ok (.getfield idx, 3)) (hc : kN[ci]? = some (C, T, N)) (hk : k < N) (hf : kF ci k = 1) (h1 : ci < 100) (hin : ∀ w ∈ u_ws C T N, w ∈ TBg) (hl : Cond.fieldLink (mO j) idx (T k).1 (T k).2.1 (T k).2.2.1 ∈ TBg) : Snd l D AC b z L xs G j pc (oGetR ci k (pc + 3)) := by
  intro ls st h Q kk p e R s m args below meth c QQ X E H locs lsR cells slots hP hS hB hL
  unfold oGetR at kk
  split at kk
  · split at kk
    · rename_i a r hK
      obtain ⟨h2, h3⟩ := isK_spec hK
      obtain ⟨i, rfl⟩ := id_pos L xs hB.2.2 h3 h1
      simp only [List.map_cons, tvs b z (id_low L xs hB.2.2 h2)]
      have he := wl_get AC b z h2
      rw [cE_obj AC b z hc h3 h1] at he
      refine va_get (D := D) (ci := ci) (C := C) (T := T) (N := N) X.1 X.2.1 X.2.2.2.2.2.1 hin X.2.2.2.2.1 X.2.2.2.2.2.2.2.2.2.1.1 hP i he hc k hk (X.2.2.2.2.2.1 _ hl) (fun _ h9 => h9) (v := va_rf ((gR h (i + 1) k).map (adr b z))) ?_ hd (kk p e R s m args below meth c QQ X E H locs lsR cells slots hP hS hB hL)
      rw [List.getElem?_map, List.getElem?_range hk]
      simp [fV, hf]
    · exact kk.elim
  · exact kk.elim
theorem sn_putI0 {ci k N idx : Nat} {C : String} {T : u_T} {ty0 : Nat → FieldType} (hc : kN[ci]? = some (C, T, N)) (hk : k < N) (hf : kF ci k = 0) (h1 : ci < 100) (hin : ∀ w ∈ u_ws C T N, w ∈ TBg) (hty : ∀ k, k < N → parseFieldDescriptor (T k).2.2.1 = some (ty0 k)) (hnm : ∀ a, a < N → ∀ b, b < N → a ≠ b → (T a).2.1 ≠ (T b).2.1) (hl : Cond.fieldLink (mO j) idx (T k).1 (T k).2.1 (T k).2.2.1 ∈ TBg) (hfin : (T k).2.2.2 = false) (hd : decode (mC j) pc = .ok (.putfield idx, 3))
    {ls : Lo} {r : Sk} {h : Hp} {Q : MRes → Hp → Prop} {a : Nat} {x : Int32} (hn : narrow (ty0 k) (.int x) = .int x) (hfit : fits (ty0 k) (.int x) = true) (hK : isK h a ci = true) (kk : RX l D AC b z L xs j (pc + 3) ls r (sI h a k x) Q) : RX l D AC b z L xs j pc ls (.inl x :: .inr (.inl (some a)) :: r) h Q := by
  intro p e R s m args below meth c QQ X E H locs lsR cells slots hP hS hB hL
  obtain ⟨h2, h3⟩ := isK_spec hK
  obtain ⟨i, rfl⟩ := id_pos L xs hB.2.2 h3 h1
  simp only [List.map_cons, tvs b z (id_low L xs hB.2.2 h2)]
  have he := wl_get AC b z h2
  rw [cE_obj AC b z hc h3 h1] at he
  refine va_put (D := D) (ci := ci) (v := .int x) (ty := ty0 k) (C := C) (T := T) (N := N) X.1 X.2.1 X.2.2.2.2.2.1 hin ty0 hty hnm X.2.2.2.2.1 X.2.2.2.2.2.2.2.2.2.1.1 hP (wl_D AC b z h) hS i he hc k hk (X.2.2.2.2.2.1 _ hl) (fun _ h9 => h9) hfin (hty k hk) hn hfit (by rw [List.length_map, List.length_range]; exact hk) hd (fun H1 locs1 hP1 _ hS1 => ?_)
  rw [wl_set AC b z (h' := sI h (i + 1) k x) h2 rfl ?_ (fun c9 h9 => cE_sI AC b z h9)] at hP1
  · exact kk p e R s m args below meth c QQ X E H1 locs1 lsR cells slots hP1 hS1 ⟨hB.1, hB.2.1, Bd_sI L xs (Nat.succ_ne_zero i) hB.2.2⟩ hL
  · rw [cE_obj AC b z (h := sI h (i + 1) k x) hc h3 h1, map_set (fun q hq => ?_)]
    unfold fV
    by_cases hqk : q = k
    · subst hqk
      rw [hf, if_pos rfl]
      show Value.int (gI (sI h (i + 1) q x) (i + 1) q) = _
      rw [gI_sI, if_pos ⟨rfl, rfl⟩]
    · rw [if_neg hqk, gI_sI, if_neg (fun w => hqk w.2)]
      rfl
theorem sn_putI {ci k N idx : Nat} {C : String} {T : u_T} {ty0 : Nat → FieldType} (hd : decode (mC j) pc = .ok (.putfield idx, 3)) (hc : kN[ci]? = some (C, T, N)) (hk : k < N) (hf : kF ci k = 0) (h1 : ci < 100) (hin : ∀ w ∈ u_ws C T N, w ∈ TBg) (hty : ∀ k, k < N → parseFieldDescriptor (T k).2.2.1 = some (ty0 k)) (hnm : ∀ a, a < N → ∀ b, b < N → a ≠ b → (T a).2.1 ≠ (T b).2.1) (hl : Cond.fieldLink (mO j) idx (T k).1 (T k).2.1 (T k).2.2.1 ∈ TBg) (hfin : (T k).2.2.2 = false) (ht : ty0 k = .int) : Snd l D AC b z L xs G j pc (oPutI ci k (pc + 3)) := by
  intro ls st h Q kk
  unfold oPutI at kk
  split at kk
  · split at kk
    · rename_i hK
      exact sn_putI0 l D AC b z L xs hc hk hf h1 hin hty hnm hl hfin hd (by rw [ht]; rfl) (by rw [ht]; rfl) hK kk
    · exact kk.elim
  · exact kk.elim
theorem sn_putZ {ci k N idx : Nat} {C : String} {T : u_T} {ty0 : Nat → FieldType} (hd : decode (mC j) pc = .ok (.putfield idx, 3)) (hc : kN[ci]? = some (C, T, N)) (hk : k < N) (hf : kF ci k = 0) (h1 : ci < 100) (hin : ∀ w ∈ u_ws C T N, w ∈ TBg) (hty : ∀ k, k < N → parseFieldDescriptor (T k).2.2.1 = some (ty0 k)) (hnm : ∀ a, a < N → ∀ b, b < N → a ≠ b → (T a).2.1 ≠ (T b).2.1) (hl : Cond.fieldLink (mO j) idx (T k).1 (T k).2.1 (T k).2.2.1 ∈ TBg) (hfin : (T k).2.2.2 = false) (ht : ty0 k = .boolean) : Snd l D AC b z L xs G j pc (oPutZ ci k (pc + 3)) := by
  intro ls st h Q kk
  unfold oPutZ at kk
  split at kk
  · split at kk
    · rename_i x a r hK
      simp only [Bool.and_eq_true, Bool.or_eq_true, decide_eq_true_eq] at hK
      obtain ⟨hK, hx⟩ := hK
      have hn : narrow (ty0 k) (.int x) = .int x ∧ fits (ty0 k) (.int x) = true := by
        rw [ht]
        rcases hx with rfl | rfl <;> exact ⟨by decide, by decide⟩
      exact sn_putI0 l D AC b z L xs hc hk hf h1 hin hty hnm hl hfin hd hn.1 hn.2 hK kk
    · exact kk.elim
  · exact kk.elim
theorem cE_putR {h : Hp} {i k ci N : Nat} {C : String} {T : u_T} {v : Option Nat} (hc : kN[ci]? = some (C, T, N)) (h3 : kd h (i + 1) = ci) (hf : kF ci k = 1) (h1 : ci < 100) : cE AC b z (sR h (i + 1) k v) (i + 1) = .inr (ci, ((List.range N).map (fV b z h (i + 1) ci)).set k (va_rf (v.map (adr b z)))) := by
  rw [cE_obj AC b z (h := sR h (i + 1) k v) hc h3 h1, map_set (fun q hq => ?_)]
  unfold fV
  by_cases hqk : q = k
  · subst hqk
    rw [hf, if_pos rfl]
    show va_rf ((gR (sR h (i + 1) q v) (i + 1) q).map _) = _
    rw [gR_sR, if_pos ⟨rfl, rfl⟩]
  · rw [if_neg hqk, gR_sR, if_neg (fun w => hqk w.2)]
    rfl
theorem ref_fits {ty : FieldType} (ht : (∃ n, ty = .object n) ∨ ∃ t, ty = .array t) (r : Option Nat) : narrow ty (va_rf r) = va_rf r ∧ fits ty (va_rf r) = true := by
  rcases ht with ⟨n, rfl⟩ | ⟨t, rfl⟩ <;> cases r <;> exact ⟨rfl, rfl⟩
theorem sn_putR {ci k N idx : Nat} {C : String} {T : u_T} {ty0 : Nat → FieldType} (hd : decode (mC j) pc = .ok (.putfield idx, 3)) (hc : kN[ci]? = some (C, T, N)) (hk : k < N) (hf : kF ci k = 1) (h1 : ci < 100) (hin : ∀ w ∈ u_ws C T N, w ∈ TBg) (hty : ∀ k, k < N → parseFieldDescriptor (T k).2.2.1 = some (ty0 k)) (hnm : ∀ a, a < N → ∀ b, b < N → a ≠ b → (T a).2.1 ≠ (T b).2.1) (hl : Cond.fieldLink (mO j) idx (T k).1 (T k).2.1 (T k).2.2.1 ∈ TBg) (hfin : (T k).2.2.2 = false) (ht : (∃ n, ty0 k = .object n) ∨ ∃ t, ty0 k = .array t) : Snd l D AC b z L xs G j pc (oPutR ci k (pc + 3)) := by
  intro ls st h Q kk p e R s m args below meth c QQ X E H locs lsR cells slots hP hS hB hL
  unfold oPutR at kk
  split at kk
  · split at kk
    · rename_i x a r hK
      obtain ⟨h2, h3⟩ := isK_spec hK
      obtain ⟨i, rfl⟩ := id_pos L xs hB.2.2 h3 h1
      simp only [List.map_cons, tvs b z (id_low L xs hB.2.2 h2)]
      have he := wl_get AC b z h2
      rw [cE_obj AC b z hc h3 h1] at he
      refine va_put (D := D) (ci := ci) (v := va_rf (x.map (adr b z))) (ty := ty0 k) (C := C) (T := T) (N := N) X.1 X.2.1 X.2.2.2.2.2.1 hin ty0 hty hnm X.2.2.2.2.1 X.2.2.2.2.2.2.2.2.2.1.1 hP (wl_D AC b z h) hS i he hc k hk (X.2.2.2.2.2.1 _ hl) (fun _ h9 => h9) hfin (hty k hk) (ref_fits ht _).1 (ref_fits ht _).2 (by rw [List.length_map, List.length_range]; exact hk) hd (fun H1 locs1 hP1 _ hS1 => ?_)
      rw [wl_set AC b z (h' := sR h (i + 1) k x) h2 rfl (cE_putR AC b z hc h3 hf h1) (fun c9 h9 => cE_sR AC b z h9)] at hP1
      exact kk p e R s m args below meth c QQ X E H1 locs1 lsR cells slots hP1 hS1 hB hL
    · exact kk.elim
  · exact kk.elim
theorem sn_putRF {ci k N idx : Nat} {C : String} {T : u_T} {ty0 : Nat → FieldType} (hd : decode (mC j) pc = .ok (.putfield idx, 3)) (hc : kN[ci]? = some (C, T, N)) (hk : k < N) (hf : kF ci k = 1) (h1 : ci < 100) (hin : ∀ w ∈ u_ws C T N, w ∈ TBg) (hty : ∀ k, k < N → parseFieldDescriptor (T k).2.2.1 = some (ty0 k)) (hnm : ∀ a, a < N → ∀ b, b < N → a ≠ b → (T a).2.1 ≠ (T b).2.1) (hl : Cond.fieldLink (mO j) idx (T k).1 (T k).2.1 (T k).2.2.1 ∈ TBg) (hfin : (T k).2.2.2 = true) (hi : (mY j).name = "<init>") (hdecl : (T k).1 = mO j) (ht : (∃ n, ty0 k = .object n) ∨ ∃ t, ty0 k = .array t) : Snd l D AC b z L xs G j pc (oPutR ci k (pc + 3)) := by
  intro ls st h Q kk p e R s m args below meth c QQ X E H locs lsR cells slots hP hS hB hL
  unfold oPutR at kk
  split at kk
  · split at kk
    · rename_i x a r hK
      obtain ⟨h2, h3⟩ := isK_spec hK
      obtain ⟨i, rfl⟩ := id_pos L xs hB.2.2 h3 h1
      simp only [List.map_cons, tvs b z (id_low L xs hB.2.2 h2)]
      have he := wl_get AC b z h2
      rw [cE_obj AC b z hc h3 h1] at he
      refine va_putF (D := D) (ci := ci) (v := va_rf (x.map (adr b z))) (ty := ty0 k) (C := C) (T := T) (N := N) X.1 X.2.1 X.2.2.2.2.2.1 hin ty0 hty hnm X.2.2.2.2.1 X.2.2.2.2.2.2.2.2.2.1.1 hP (wl_D AC b z h) hS i he hc k hk (X.2.2.2.2.2.1 _ hl) (fun _ h9 => h9) hfin (X.2.2.2.2.2.2.2.1.trans hi) hdecl (hty k hk) (ref_fits ht _).1 (ref_fits ht _).2 (by rw [List.length_map, List.length_range]; exact hk) hd (fun H1 locs1 hP1 _ hS1 => ?_)
      rw [wl_set AC b z (h' := sR h (i + 1) k x) h2 rfl (cE_putR AC b z hc h3 hf h1) (fun c9 h9 => cE_sR AC b z h9)] at hP1
      exact kk p e R s m args below meth c QQ X E H1 locs1 lsR cells slots hP1 hS1 hB hL
    · exact kk.elim
  · exact kk.elim
end HEAPOPS
