/-! EACH HANDLER IS SOUND (printed by wip/genops.py) -/
section MAKE
variable {p : Program} {l : Launch} {e : Env} {R : Room} {s : State} {m : MethodId} {args : Array Value} {below : List Frame} {meth : Method} {c : Code} {H : Heap} {locs : List Loc} {cells slots : Nat} {Q : State → Prop}
variable {ls : Array Slot} {rest : List Value} {D : va_G} {cl : List vw_C} {tys : List (ClassId × FieldType)} {ws : va_W}
theorem ms_makeS {cc : ByteArray} {pc : Nat} (hexec : p.tables.exec = Jvm.exec) (hb : c.code = cc) (hl : l.stackTraces = false) {own cls text : String} {names : List String} {ik is ic sa ci : Nat} {A : Nat → Prop} {T0 : u_T}
    (hown : s.vm.findClass own = some m.cls) (hcls : Bundle.fit cls = true) (hnames : ∀ n ∈ names, Bundle.fit n = true)
    (hk : (Cond.classLink own ik cls).before args s = true) (hini : (Cond.initialized cls).before args s = true) (hstr : vk_R own is text sa s) (hat : ∀ w ∈ vx_atS own ic cls names, w.before args s = true)
    (hgood : ∀ w ∈ Cond.classLink own ik cls :: Cond.initialized cls :: vx_atS own ic cls names, vx_ot w = true)
    (hU : vx_Zq Bundle.tN "UNASSIGNED_STACK" Bundle.steD A s s.heap) (hN : vx_Zq Bundle.tN "SUPPRESSED_SENTINEL" Bundle.listD A s s.heap) (hS : va_S A s.heap H locs) (hsize : ls.size = c.maxLocals)
    (d0 : decode cc pc = .ok (.new ik, 3)) (d3 : decode cc (pc + 3) = .ok (.dup, 1)) (d4 : decode cc (pc + 4) = .ok (.ldc is, 2)) (d6 : decode cc (pc + 6) = .ok (.invokespecial ic, 3))
    (hK : va_K D cl tys s) (hP : va_P D cl ws H) (hD : va_D A ws) (hA : ∀ q, s.heap.size ≤ q → A q) (hc : cl[ci]? = some (cls, T0, 0))
    (hRframes : names.length + 3 < R.frames) (hRlocals : (rest.map fun v => v.category).sum + (13 * (names.length + 1) + 43) ≤ R.locals) (hRcells : cells + 1 ≤ R.cells) (hRslots : slots + 6 ≤ R.slots)
    (kk : ∀ (H1 : Heap), va_P D cl (ws ++ [(H.size, .inr (ci, []))]) H1 → va_S A s.heap H1 locs → W p l e R s m args below meth c H1 locs (cells + 1) (slots + 6) Q (F0 m (pc + 9) ls (.ref H.size :: rest))) :
    W p l e R s m args below meth c H locs cells slots Q (F0 m pc ls rest) := by
  intro T hT X
  subst hT
  have htr : e.platform.stackTraces = false := (show e.platform.stackTraces = l.stackTraces by rw [X.admits.platform]).trans hl
  have Y := vx_rebase X (R' := { frames := R.frames, locals := R.locals, cells := 1, slots := 6 }) (Nat.le_refl _) (Nat.le_refl _) hRcells hRslots
  obtain ⟨s', hA'⟩ : ∃ z, z = (T.setVm s.vm).setFrames (.invoking m args :: below) := ⟨_, rfl⟩
  rw [← hA'] at Y
  have hvm : s'.vm = s.vm := by rw [hA']; rfl
  have hhp : s'.heap = T.heap := by rw [hA']; rfl
  have hW0 : s.WarmedH s'.vm := by rw [hvm]; exact State.WarmedH.refl s
  have hat' : ∀ w ∈ vx_atS own ic cls names, w.before args s' = true := fun w hw => vx_ot_at hW0 hvm.symm (hgood w (List.mem_cons_of_mem _ (List.mem_cons_of_mem _ hw))) (hat w hw)
  have hk' : (Cond.classLink own ik cls).before args s' = true := vx_ot_at hW0 hvm.symm (hgood _ List.mem_cons_self) hk
  have hini' : (Cond.initialized cls).before args s' = true := vx_ot_at hW0 hvm.symm (hgood _ (List.mem_cons_of_mem _ List.mem_cons_self)) hini
  have hU' : vx_Zq Bundle.tN "UNASSIGNED_STACK" Bundle.steD A s' s'.heap := by rw [hhp]; exact vx_Zq.moved hW0.alike (hU.kept hS.2.1)
  have hN' : vx_Zq Bundle.tN "SUPPRESSED_SENTINEL" Bundle.listD A s' s'.heap := by rw [hhp]; exact vx_Zq.moved hW0.alike (hN.kept hS.2.1)
  have h : ∀ w ∈ Bundle.ownAtoms own ic cls names, w.before args s' = true := vx_own hat' (vx_isRefq hU'.1) (vx_isRefq hN'.1) hU'.2.word hN'.2.word
  have hown' : s'.vm.findClass own = some m.cls := by rw [hvm]; exact hown
  have hins : (Cond.instantiable cls 6).before args s' = true := h _ (by simp [Bundle.ownAtoms])
  obtain ⟨vm₁, cX, kX, hfX, hkX, -, -, X₁, st1⟩ := Y.newCold hexec (own := own) (C := cls) (index := ik) (n := 6) hown' hk' hins hini'
    (g := F0 m pc ls rest) rfl (by rw [hb]; exact d0) (Nat.le_refl _) (Nat.le_refl _)
  generalize hT1 : (T.setVm vm₁).pushCell { cls := cX, slots := kX.instanceTypes.map defaultValue, vm := .none } = T1 at X₁ st1
  have hcat : (Value.ref T.heap.size).category = 1 := rfl
  have hcellA : T1.heap[T.heap.size]? = some (freshCell cX kX) := by rw [← hT1]; exact State.heap_pushCell_size _ _
  have d3' : decode c.code (pc + 3) = .ok (.dup, 1) := by rw [hb]; exact d3
  have d4' : decode c.code (pc + 4) = .ok (.ldc is, 2) := by rw [hb]; exact d4
  have hstr' : vk_R own is text sa s' := vk_R.warm hW0 hstr
  obtain ⟨V, ce, L, Z, hL, hlt, hcl9, hvm9, st⟩ := vx_ctorMadeS X₁ hexec htr (own := own) (cls := cls) (names := names) (ic := ic) hown' hcls hnames h (fun x hx => nomatch hx) hfX hkX hcellA (by rw [hhp]; exact Nat.le_refl _) (msg := .ref sa) rfl
    (g := { method := m, pc := pc + 6, locals := ls, stack := .ref sa :: .ref T.heap.size :: .ref T.heap.size :: rest, locked := none }) rfl hsize (rest := rest) rfl
    (by rw [hb]; exact d6) hRframes (by simp only [List.map_cons, List.sum_cons, hcat]; omega)
  have Z0 := Stand.forget (locs := []) Z (fun y hy => by rw [hL y hy, hhp]; exact Nat.le_refl _)
  obtain ⟨f1, f2⟩ := vx_frame Z0.same
  rw [hhp] at f1 f2
  have hcid : ce.cls = D.1 ci := by
    rw [hcl9]
    have h1 := (hK.1 ci _ hc).2.1
    rw [hvm] at hfX
    exact Option.some.inj (hfX.symm.trans h1)
  have hh : (V.setCell T.heap.size ce).heap[T.heap.size]? = some ce := heapAt_setCell_self (s := V) ce hlt
  subst hA'
  have X5 := vx_back9 X Y Z0
  have X6 : Stand p l e R s m args below meth c (V.setCell T.heap.size ce) locs (cells + 1) (slots + 6) := { X5 with same := X5.same.mono (by omega) (by omega) }
  have hk9 : ∀ (k : Nat) (x : Nat × va_E), ws[k]? = some x → (V.setCell T.heap.size ce).heap[x.1]? = T.heap[x.1]? := fun k x hx => f2 x.1 ((hP k x hx).lt) (fun z hz => nomatch hz)
  obtain ⟨t, a1, b1⟩ := kk (V.setCell T.heap.size ce).heap ((hP.kept hk9).app (fun k x hx => by
      have hz : k < 1 := (List.getElem?_eq_some_iff.mp hx).1
      rw [show k = 0 by omega] at hx
      cases hx
      exact ⟨_, hc, ce, hh, hcid, hvm9, fun k hk => absurd hk (Nat.not_lt_zero k)⟩)) ⟨Nat.le_trans hS.1 f1, fun q h1 h2 => (f2 q (Nat.lt_of_lt_of_le h1 hS.1) (fun z hz => nomatch hz)).trans (hS.2.1 q h1 h2), hS.2.2⟩ _ rfl X6
  refine ⟨t, st1 _ ?_, b1⟩
  show Steps p.tables e below (T1.setTop { method := m, pc := pc + 3, locals := ls, stack := .ref T.heap.size :: rest, locked := none }) _
  jvm_step X₁.here [X₁.here.top, hexec, d3', Value.category]
  exact X₁.ldcString hexec (own := own) (text := text) (index := is) (a := sa) hown' hstr'.1 hstr'.2
    (g := { method := m, pc := pc + 4, locals := ls, stack := .ref T.heap.size :: .ref T.heap.size :: rest, locked := none }) rfl d4' _ (st _ a1)

theorem ms_makeW {cc : ByteArray} {pc : Nat} (hexec : p.tables.exec = Jvm.exec) (hb : c.code = cc) (hl : l.stackTraces = false) {own cls text : String} {names : List String} {ik is ic sa ci : Nat} {A : Nat → Prop} {T0 : u_T}
    (hown : s.vm.findClass own = some m.cls) (hcls : Bundle.fit cls = true) (hnames : ∀ n ∈ names, Bundle.fit n = true)
    (hk : (Cond.classLink own ik cls).before args s = true) (hini : (Cond.initialized cls).before args s = true) (hstr : vk_R own is text sa s) (hat : ∀ w ∈ vx_atS own ic cls names, w.before args s = true)
    (hgood : ∀ w ∈ Cond.classLink own ik cls :: Cond.initialized cls :: vx_atS own ic cls names, vx_ot w = true)
    (hU : vx_Zq Bundle.tN "UNASSIGNED_STACK" Bundle.steD A s s.heap) (hN : vx_Zq Bundle.tN "SUPPRESSED_SENTINEL" Bundle.listD A s s.heap) (hS : va_S A s.heap H locs) (hsize : ls.size = c.maxLocals)
    (d0 : decode cc pc = .ok (.new ik, 3)) (d3 : decode cc (pc + 3) = .ok (.dup, 1)) (d4 : decode cc (pc + 4) = .ok (.ldc_w is, 3)) (d6 : decode cc (pc + 7) = .ok (.invokespecial ic, 3))
    (hK : va_K D cl tys s) (hP : va_P D cl ws H) (hD : va_D A ws) (hA : ∀ q, s.heap.size ≤ q → A q) (hc : cl[ci]? = some (cls, T0, 0))
    (hRframes : names.length + 3 < R.frames) (hRlocals : (rest.map fun v => v.category).sum + (13 * (names.length + 1) + 43) ≤ R.locals) (hRcells : cells + 1 ≤ R.cells) (hRslots : slots + 6 ≤ R.slots)
    (kk : ∀ (H1 : Heap), va_P D cl (ws ++ [(H.size, .inr (ci, []))]) H1 → va_S A s.heap H1 locs → W p l e R s m args below meth c H1 locs (cells + 1) (slots + 6) Q (F0 m (pc + 10) ls (.ref H.size :: rest))) :
    W p l e R s m args below meth c H locs cells slots Q (F0 m pc ls rest) := by
  intro T hT X
  subst hT
  have htr : e.platform.stackTraces = false := (show e.platform.stackTraces = l.stackTraces by rw [X.admits.platform]).trans hl
  have Y := vx_rebase X (R' := { frames := R.frames, locals := R.locals, cells := 1, slots := 6 }) (Nat.le_refl _) (Nat.le_refl _) hRcells hRslots
  obtain ⟨s', hA'⟩ : ∃ z, z = (T.setVm s.vm).setFrames (.invoking m args :: below) := ⟨_, rfl⟩
  rw [← hA'] at Y
  have hvm : s'.vm = s.vm := by rw [hA']; rfl
  have hhp : s'.heap = T.heap := by rw [hA']; rfl
  have hW0 : s.WarmedH s'.vm := by rw [hvm]; exact State.WarmedH.refl s
  have hat' : ∀ w ∈ vx_atS own ic cls names, w.before args s' = true := fun w hw => vx_ot_at hW0 hvm.symm (hgood w (List.mem_cons_of_mem _ (List.mem_cons_of_mem _ hw))) (hat w hw)
  have hk' : (Cond.classLink own ik cls).before args s' = true := vx_ot_at hW0 hvm.symm (hgood _ List.mem_cons_self) hk
  have hini' : (Cond.initialized cls).before args s' = true := vx_ot_at hW0 hvm.symm (hgood _ (List.mem_cons_of_mem _ List.mem_cons_self)) hini
  have hU' : vx_Zq Bundle.tN "UNASSIGNED_STACK" Bundle.steD A s' s'.heap := by rw [hhp]; exact vx_Zq.moved hW0.alike (hU.kept hS.2.1)
  have hN' : vx_Zq Bundle.tN "SUPPRESSED_SENTINEL" Bundle.listD A s' s'.heap := by rw [hhp]; exact vx_Zq.moved hW0.alike (hN.kept hS.2.1)
  have h : ∀ w ∈ Bundle.ownAtoms own ic cls names, w.before args s' = true := vx_own hat' (vx_isRefq hU'.1) (vx_isRefq hN'.1) hU'.2.word hN'.2.word
  have hown' : s'.vm.findClass own = some m.cls := by rw [hvm]; exact hown
  have hins : (Cond.instantiable cls 6).before args s' = true := h _ (by simp [Bundle.ownAtoms])
  obtain ⟨vm₁, cX, kX, hfX, hkX, -, -, X₁, st1⟩ := Y.newCold hexec (own := own) (C := cls) (index := ik) (n := 6) hown' hk' hins hini'
    (g := F0 m pc ls rest) rfl (by rw [hb]; exact d0) (Nat.le_refl _) (Nat.le_refl _)
  generalize hT1 : (T.setVm vm₁).pushCell { cls := cX, slots := kX.instanceTypes.map defaultValue, vm := .none } = T1 at X₁ st1
  have hcat : (Value.ref T.heap.size).category = 1 := rfl
  have hcellA : T1.heap[T.heap.size]? = some (freshCell cX kX) := by rw [← hT1]; exact State.heap_pushCell_size _ _
  have d3' : decode c.code (pc + 3) = .ok (.dup, 1) := by rw [hb]; exact d3
  have d4' : decode c.code (pc + 4) = .ok (.ldc_w is, 3) := by rw [hb]; exact d4
  have hstr' : vk_R own is text sa s' := vk_R.warm hW0 hstr
  obtain ⟨V, ce, L, Z, hL, hlt, hcl9, hvm9, st⟩ := vx_ctorMadeS X₁ hexec htr (own := own) (cls := cls) (names := names) (ic := ic) hown' hcls hnames h (fun x hx => nomatch hx) hfX hkX hcellA (by rw [hhp]; exact Nat.le_refl _) (msg := .ref sa) rfl
    (g := { method := m, pc := pc + 7, locals := ls, stack := .ref sa :: .ref T.heap.size :: .ref T.heap.size :: rest, locked := none }) rfl hsize (rest := rest) rfl
    (by rw [hb]; exact d6) hRframes (by simp only [List.map_cons, List.sum_cons, hcat]; omega)
  have Z0 := Stand.forget (locs := []) Z (fun y hy => by rw [hL y hy, hhp]; exact Nat.le_refl _)
  obtain ⟨f1, f2⟩ := vx_frame Z0.same
  rw [hhp] at f1 f2
  have hcid : ce.cls = D.1 ci := by
    rw [hcl9]
    have h1 := (hK.1 ci _ hc).2.1
    rw [hvm] at hfX
    exact Option.some.inj (hfX.symm.trans h1)
  have hh : (V.setCell T.heap.size ce).heap[T.heap.size]? = some ce := heapAt_setCell_self (s := V) ce hlt
  subst hA'
  have X5 := vx_back9 X Y Z0
  have X6 : Stand p l e R s m args below meth c (V.setCell T.heap.size ce) locs (cells + 1) (slots + 6) := { X5 with same := X5.same.mono (by omega) (by omega) }
  have hk9 : ∀ (k : Nat) (x : Nat × va_E), ws[k]? = some x → (V.setCell T.heap.size ce).heap[x.1]? = T.heap[x.1]? := fun k x hx => f2 x.1 ((hP k x hx).lt) (fun z hz => nomatch hz)
  obtain ⟨t, a1, b1⟩ := kk (V.setCell T.heap.size ce).heap ((hP.kept hk9).app (fun k x hx => by
      have hz : k < 1 := (List.getElem?_eq_some_iff.mp hx).1
      rw [show k = 0 by omega] at hx
      cases hx
      exact ⟨_, hc, ce, hh, hcid, hvm9, fun k hk => absurd hk (Nat.not_lt_zero k)⟩)) ⟨Nat.le_trans hS.1 f1, fun q h1 h2 => (f2 q (Nat.lt_of_lt_of_le h1 hS.1) (fun z hz => nomatch hz)).trans (hS.2.1 q h1 h2), hS.2.2⟩ _ rfl X6
  refine ⟨t, st1 _ ?_, b1⟩
  show Steps p.tables e below (T1.setTop { method := m, pc := pc + 3, locals := ls, stack := .ref T.heap.size :: rest, locked := none }) _
  jvm_step X₁.here [X₁.here.top, hexec, d3', Value.category]
  exact X₁.ldcStringW hexec (own := own) (text := text) (index := is) (a := sa) hown' hstr'.1 hstr'.2
    (g := { method := m, pc := pc + 4, locals := ls, stack := .ref T.heap.size :: .ref T.heap.size :: rest, locked := none }) rfl d4' _ (st _ a1)

end MAKE
section OPS
variable (l : Launch) (D : va_G) (AC : Nat → ClassId) (b : Nat × (Nat → Nat)) (z L : Nat) (xs : Nat → Int32) (G : Pg) {j pc : Nat}
theorem sn_iconst {n : Int} {v : Int32} (hd : decode (mC j) pc = .ok (.iconst n, 1)) (hv : Int32.ofInt n = v) : Snd l D AC b z L xs G j pc (oI v (pc + 1)) := by
  intro ls st h Q kk p e R s m args below meth c QQ C E H locs lsR cells slots hP hS hB hL
  exact lv_iconst C.1 C.2.1 hd hv (kk p e R s m args below meth c QQ C E H locs lsR cells slots hP hS hB hL)
theorem sn_bipush {n : Int} {v : Int32} (hd : decode (mC j) pc = .ok (.bipush n, 2)) (hv : (Int8.ofInt n).toInt32 = v) : Snd l D AC b z L xs G j pc (oI v (pc + 2)) := by
  intro ls st h Q kk p e R s m args below meth c QQ C E H locs lsR cells slots hP hS hB hL
  exact lv_bipush C.1 C.2.1 hd hv (kk p e R s m args below meth c QQ C E H locs lsR cells slots hP hS hB hL)
theorem sn_sipush {n : Int} {v : Int32} (hd : decode (mC j) pc = .ok (.sipush n, 3)) (hv : (Int16.ofInt n).toInt32 = v) : Snd l D AC b z L xs G j pc (oI v (pc + 3)) := by
  intro ls st h Q kk p e R s m args below meth c QQ C E H locs lsR cells slots hP hS hB hL
  exact lv_sipush C.1 C.2.1 hd hv (kk p e R s m args below meth c QQ C E H locs lsR cells slots hP hS hB hL)
theorem sn_ldc {i : Nat} {v : Int32} (hd : decode (mC j) pc = .ok (.ldc i, 2)) (hw : Cond.constant (mO j) i v ∈ TBg) : Snd l D AC b z L xs G j pc (oI v (pc + 2)) := by
  intro ls st h Q kk p e R s m args below meth c QQ C E H locs lsR cells slots hP hS hB hL
  exact lv_ldc C.1 C.2.1 C.2.2.2.2.1 (C.2.2.2.2.2.1 _ hw) hd (kk p e R s m args below meth c QQ C E H locs lsR cells slots hP hS hB hL)
theorem sn_ldcw {i : Nat} {v : Int32} (hd : decode (mC j) pc = .ok (.ldc_w i, 3)) (hw : Cond.constant (mO j) i v ∈ TBg) : Snd l D AC b z L xs G j pc (oI v (pc + 3)) := by
  intro ls st h Q kk p e R s m args below meth c QQ C E H locs lsR cells slots hP hS hB hL
  exact lv_ldcw C.1 C.2.1 C.2.2.2.2.1 (C.2.2.2.2.2.1 _ hw) hd (kk p e R s m args below meth c QQ C E H locs lsR cells slots hP hS hB hL)
theorem sn_ldc2 {i : Nat} {v : Int64} (hd : decode (mC j) pc = .ok (.ldc2_w i, 3)) (hw : Cond.constantLong (mO j) i v ∈ TBg) : Snd l D AC b z L xs G j pc (oJ v (pc + 3)) := by
  intro ls st h Q kk p e R s m args below meth c QQ C E H locs lsR cells slots hP hS hB hL
  exact lv_ldc2 C.1 C.2.1 C.2.2.2.2.1 (C.2.2.2.2.2.1 _ hw) hd (kk p e R s m args below meth c QQ C E H locs lsR cells slots hP hS hB hL)
theorem sn_ldc2d {i : Nat} {v : UInt64} (hd : decode (mC j) pc = .ok (.ldc2_w i, 3)) (hw : Cond.constantDouble (mO j) i v ∈ TBg) : Snd l D AC b z L xs G j pc (oF v (pc + 3)) := by
  intro ls st h Q kk p e R s m args below meth c QQ C E H locs lsR cells slots hP hS hB hL
  exact lv_ldc2d C.1 C.2.1 C.2.2.2.2.1 (C.2.2.2.2.2.1 _ hw) hd (kk p e R s m args below meth c QQ C E H locs lsR cells slots hP hS hB hL)
theorem sn_lconst {n : Fin 2} {v : Int64} (hd : decode (mC j) pc = .ok (.lconst n, 1)) (hv : Int64.ofNat (n : Nat) = v) : Snd l D AC b z L xs G j pc (oJ v (pc + 1)) := by
  intro ls st h Q kk p e R s m args below meth c QQ C E H locs lsR cells slots hP hS hB hL
  exact lv_lconst C.1 C.2.1 hd hv (kk p e R s m args below meth c QQ C E H locs lsR cells slots hP hS hB hL)
theorem sn_dconst0 (hd : decode (mC j) pc = .ok (.dconst 0, 1)) : Snd l D AC b z L xs G j pc (oF FP.dconst0 (pc + 1)) := by
  intro ls st h Q kk p e R s m args below meth c QQ C E H locs lsR cells slots hP hS hB hL
  exact lv_dconst0 C.1 C.2.1 hd (kk p e R s m args below meth c QQ C E H locs lsR cells slots hP hS hB hL)
theorem sn_dconst1 (hd : decode (mC j) pc = .ok (.dconst 1, 1)) : Snd l D AC b z L xs G j pc (oF FP.dconst1 (pc + 1)) := by
  intro ls st h Q kk p e R s m args below meth c QQ C E H locs lsR cells slots hP hS hB hL
  exact lv_dconst1 C.1 C.2.1 hd (kk p e R s m args below meth c QQ C E H locs lsR cells slots hP hS hB hL)
theorem sn_null (hd : decode (mC j) pc = .ok (.aconst_null, 1)) : Snd l D AC b z L xs G j pc (oN (pc + 1)) := by
  intro ls st h Q kk p e R s m args below meth c QQ C E H locs lsR cells slots hP hS hB hL
  exact lv_null C.1 C.2.1 hd (kk p e R s m args below meth c QQ C E H locs lsR cells slots hP hS hB hL)
theorem sn_iload_n {k : Fin 4} {i : Nat} (hd : decode (mC j) pc = .ok (.iload_n k, 1)) (hi : (k : Nat) = i) : Snd l D AC b z L xs G j pc (oIld i (pc + 1)) := by
  intro ls st h Q kk p e R s m args below meth c QQ C E H locs lsR cells slots hP hS hB hL
  unfold oIld at kk
  split at kk
  · rename_i hx
    exact lv_iload_n C.1 C.2.1 hd hi (hL.2.2 _ _ hx) (kk p e R s m args below meth c QQ C E H locs lsR cells slots hP hS hB hL)
  · exact kk.elim
theorem sn_iload {i : Nat} (hd : decode (mC j) pc = .ok (.iload i, 2)) : Snd l D AC b z L xs G j pc (oIld i (pc + 2)) := by
  intro ls st h Q kk p e R s m args below meth c QQ C E H locs lsR cells slots hP hS hB hL
  unfold oIld at kk
  split at kk
  · rename_i hx
    exact lv_iload C.1 C.2.1 hd (hL.2.2 _ _ hx) (kk p e R s m args below meth c QQ C E H locs lsR cells slots hP hS hB hL)
  · exact kk.elim
theorem sn_lload_n {k : Fin 4} {i : Nat} (hd : decode (mC j) pc = .ok (.lload_n k, 1)) (hi : (k : Nat) = i) : Snd l D AC b z L xs G j pc (oLld i (pc + 1)) := by
  intro ls st h Q kk p e R s m args below meth c QQ C E H locs lsR cells slots hP hS hB hL
  unfold oLld at kk
  split at kk
  · rename_i hx
    exact lv_lload_n C.1 C.2.1 hd hi (hL.2.2 _ _ hx) (kk p e R s m args below meth c QQ C E H locs lsR cells slots hP hS hB hL)
  · exact kk.elim
theorem sn_lload {i : Nat} (hd : decode (mC j) pc = .ok (.lload i, 2)) : Snd l D AC b z L xs G j pc (oLld i (pc + 2)) := by
  intro ls st h Q kk p e R s m args below meth c QQ C E H locs lsR cells slots hP hS hB hL
  unfold oLld at kk
  split at kk
  · rename_i hx
    exact lv_lload C.1 C.2.1 hd (hL.2.2 _ _ hx) (kk p e R s m args below meth c QQ C E H locs lsR cells slots hP hS hB hL)
  · exact kk.elim
theorem sn_dload_n {k : Fin 4} {i : Nat} (hd : decode (mC j) pc = .ok (.dload_n k, 1)) (hi : (k : Nat) = i) : Snd l D AC b z L xs G j pc (oDld i (pc + 1)) := by
  intro ls st h Q kk p e R s m args below meth c QQ C E H locs lsR cells slots hP hS hB hL
  unfold oDld at kk
  split at kk
  · rename_i hx
    exact lv_dload_n C.1 C.2.1 hd hi (hL.2.2 _ _ hx) (kk p e R s m args below meth c QQ C E H locs lsR cells slots hP hS hB hL)
  · exact kk.elim
theorem sn_dload {i : Nat} (hd : decode (mC j) pc = .ok (.dload i, 2)) : Snd l D AC b z L xs G j pc (oDld i (pc + 2)) := by
  intro ls st h Q kk p e R s m args below meth c QQ C E H locs lsR cells slots hP hS hB hL
  unfold oDld at kk
  split at kk
  · rename_i hx
    exact lv_dload C.1 C.2.1 hd (hL.2.2 _ _ hx) (kk p e R s m args below meth c QQ C E H locs lsR cells slots hP hS hB hL)
  · exact kk.elim
theorem sn_aload_n {k : Fin 4} {i : Nat} (hd : decode (mC j) pc = .ok (.aload_n k, 1)) (hi : (k : Nat) = i) : Snd l D AC b z L xs G j pc (oAld i (pc + 1)) := by
  intro ls st h Q kk p e R s m args below meth c QQ C E H locs lsR cells slots hP hS hB hL
  unfold oAld at kk
  split at kk
  · rename_i r hx
    cases r with
    | none => exact lv_aload_nN C.1 C.2.1 hd hi (hL.2.2 _ _ hx) (kk p e R s m args below meth c QQ C E H locs lsR cells slots hP hS hB hL)
    | some a => exact lv_aload_n C.1 C.2.1 hd hi (hL.2.2 _ _ hx) (kk p e R s m args below meth c QQ C E H locs lsR cells slots hP hS hB hL)
  · exact kk.elim
theorem sn_aload {i : Nat} (hd : decode (mC j) pc = .ok (.aload i, 2)) : Snd l D AC b z L xs G j pc (oAld i (pc + 2)) := by
  intro ls st h Q kk p e R s m args below meth c QQ C E H locs lsR cells slots hP hS hB hL
  unfold oAld at kk
  split at kk
  · rename_i r hx
    cases r with
    | none => exact lv_aloadN C.1 C.2.1 hd (hL.2.2 _ _ hx) (kk p e R s m args below meth c QQ C E H locs lsR cells slots hP hS hB hL)
    | some a => exact lv_aload C.1 C.2.1 hd (hL.2.2 _ _ hx) (kk p e R s m args below meth c QQ C E H locs lsR cells slots hP hS hB hL)
  · exact kk.elim
theorem sn_istore_n {k : Fin 4} {i : Nat} (hd : decode (mC j) pc = .ok (.istore_n k, 1)) (hi : (k : Nat) = i) (hn : i < mL j) : Snd l D AC b z L xs G j pc (oIst i (pc + 1)) := by
  intro ls st h Q kk p e R s m args below meth c QQ C E H locs lsR cells slots hP hS hB hL
  unfold oIst at kk
  split at kk
  · exact lv_istore_n C.1 C.2.1 hd hi (LR_has b z hL) hn rfl (fun ls9 hl9 => kk p e R s m args below meth c QQ C E H locs ls9 cells slots hP hS hB (LR_set1 b z (fun w hw => by cases hw; rfl) hl9))
  · exact kk.elim
theorem sn_istore {i : Nat} (hd : decode (mC j) pc = .ok (.istore i, 2)) (hn : i < mL j) : Snd l D AC b z L xs G j pc (oIst i (pc + 2)) := by
  intro ls st h Q kk p e R s m args below meth c QQ C E H locs lsR cells slots hP hS hB hL
  unfold oIst at kk
  split at kk
  · exact lv_istore C.1 C.2.1 hd (LR_has b z hL) hn rfl (fun ls9 hl9 => kk p e R s m args below meth c QQ C E H locs ls9 cells slots hP hS hB (LR_set1 b z (fun w hw => by cases hw; rfl) hl9))
  · exact kk.elim
theorem sn_astore_n {k : Fin 4} {i : Nat} (hd : decode (mC j) pc = .ok (.astore_n k, 1)) (hi : (k : Nat) = i) (hn : i < mL j) : Snd l D AC b z L xs G j pc (oAst i (pc + 1)) := by
  intro ls st h Q kk p e R s m args below meth c QQ C E H locs lsR cells slots hP hS hB hL
  unfold oAst at kk
  split at kk
  · rename_i r _
    cases r with
    | none => exact lv_astore_nN C.1 C.2.1 hd hi (LR_has b z hL) hn rfl (fun ls9 hl9 => kk p e R s m args below meth c QQ C E H locs ls9 cells slots hP hS hB (LR_set1 b z (fun w hw => by cases hw; rfl) hl9))
    | some a => exact lv_astore_n C.1 C.2.1 hd hi (LR_has b z hL) hn rfl (fun ls9 hl9 => kk p e R s m args below meth c QQ C E H locs ls9 cells slots hP hS hB (LR_set1 b z (fun w hw => by cases hw; rfl) hl9))
  · exact kk.elim
theorem sn_astore {i : Nat} (hd : decode (mC j) pc = .ok (.astore i, 2)) (hn : i < mL j) : Snd l D AC b z L xs G j pc (oAst i (pc + 2)) := by
  intro ls st h Q kk p e R s m args below meth c QQ C E H locs lsR cells slots hP hS hB hL
  unfold oAst at kk
  split at kk
  · rename_i r _
    cases r with
    | none => exact lv_astoreN C.1 C.2.1 hd (LR_has b z hL) hn rfl (fun ls9 hl9 => kk p e R s m args below meth c QQ C E H locs ls9 cells slots hP hS hB (LR_set1 b z (fun w hw => by cases hw; rfl) hl9))
    | some a => exact lv_astore C.1 C.2.1 hd (LR_has b z hL) hn rfl (fun ls9 hl9 => kk p e R s m args below meth c QQ C E H locs ls9 cells slots hP hS hB (LR_set1 b z (fun w hw => by cases hw; rfl) hl9))
  · exact kk.elim
theorem sn_lstore_n {k : Fin 4} {i : Nat} (hd : decode (mC j) pc = .ok (.lstore_n k, 1)) (hi : (k : Nat) = i) (hn : i + 1 < mL j) : Snd l D AC b z L xs G j pc (oLst i (pc + 1)) := by
  intro ls st h Q kk p e R s m args below meth c QQ C E H locs lsR cells slots hP hS hB hL
  unfold oLst at kk
  split at kk
  · exact lv_lstore_n C.1 C.2.1 hd hi (LR_has b z hL) hn rfl (fun ls9 hl9 => kk p e R s m args below meth c QQ C E H locs ls9 cells slots hP hS hB (LR_set2 b z rfl hl9))
  · exact kk.elim
theorem sn_lstore {i : Nat} (hd : decode (mC j) pc = .ok (.lstore i, 2)) (hn : i + 1 < mL j) : Snd l D AC b z L xs G j pc (oLst i (pc + 2)) := by
  intro ls st h Q kk p e R s m args below meth c QQ C E H locs lsR cells slots hP hS hB hL
  unfold oLst at kk
  split at kk
  · exact lv_lstore C.1 C.2.1 hd (LR_has b z hL) hn rfl (fun ls9 hl9 => kk p e R s m args below meth c QQ C E H locs ls9 cells slots hP hS hB (LR_set2 b z rfl hl9))
  · exact kk.elim
theorem sn_dstore_n {k : Fin 4} {i : Nat} (hd : decode (mC j) pc = .ok (.dstore_n k, 1)) (hi : (k : Nat) = i) (hn : i + 1 < mL j) : Snd l D AC b z L xs G j pc (oDst i (pc + 1)) := by
  intro ls st h Q kk p e R s m args below meth c QQ C E H locs lsR cells slots hP hS hB hL
  unfold oDst at kk
  split at kk
  · exact lv_dstore_n C.1 C.2.1 hd hi (LR_has b z hL) hn rfl (fun ls9 hl9 => kk p e R s m args below meth c QQ C E H locs ls9 cells slots hP hS hB (LR_set2 b z rfl hl9))
  · exact kk.elim
theorem sn_dstore {i : Nat} (hd : decode (mC j) pc = .ok (.dstore i, 2)) (hn : i + 1 < mL j) : Snd l D AC b z L xs G j pc (oDst i (pc + 2)) := by
  intro ls st h Q kk p e R s m args below meth c QQ C E H locs lsR cells slots hP hS hB hL
  unfold oDst at kk
  split at kk
  · exact lv_dstore C.1 C.2.1 hd (LR_has b z hL) hn rfl (fun ls9 hl9 => kk p e R s m args below meth c QQ C E H locs ls9 cells slots hP hS hB (LR_set2 b z rfl hl9))
  · exact kk.elim
theorem sn_iinc {i : Nat} {n : Int} {v : Int32} (hd : decode (mC j) pc = .ok (.iinc i n, 3)) (hv : Int32.ofInt n = v) (hn : i < mL j) : Snd l D AC b z L xs G j pc (oInc i v (pc + 3)) := by
  intro ls st h Q kk p e R s m args below meth c QQ C E H locs lsR cells slots hP hS hB hL
  subst hv
  unfold oInc at kk
  split at kk
  · rename_i x hx
    obtain ⟨q, hq⟩ := List.getElem?_of_mem ((lvl_mem b z).mpr ⟨_, hx, rfl⟩ : (i, toV b z (.inl x)) ∈ lvl b z ls)
    exact lv_iinc C.1 C.2.1 hd (LR_has b z hL) hq rfl hn rfl (fun ls9 hl9 => kk p e R s m args below meth c QQ C E H locs ls9 cells slots hP hS hB (LR_set1 b z (fun w hw => by cases hw; rfl) hl9))
  · exact kk.elim
theorem sn_iadd (hd : decode (mC j) pc = .ok (.iadd, 1)) : Snd l D AC b z L xs G j pc (oII (fun x y => x + y) (pc + 1)) := by
  intro ls st h Q kk p e R s m args below meth c QQ C E H locs lsR cells slots hP hS hB hL
  unfold oII at kk
  split at kk
  · exact lv_iadd C.1 C.2.1 hd (kk p e R s m args below meth c QQ C E H locs lsR cells slots hP hS hB hL)
  · exact kk.elim
theorem sn_isub (hd : decode (mC j) pc = .ok (.isub, 1)) : Snd l D AC b z L xs G j pc (oII (fun x y => x - y) (pc + 1)) := by
  intro ls st h Q kk p e R s m args below meth c QQ C E H locs lsR cells slots hP hS hB hL
  unfold oII at kk
  split at kk
  · exact lv_isub C.1 C.2.1 hd (kk p e R s m args below meth c QQ C E H locs lsR cells slots hP hS hB hL)
  · exact kk.elim
theorem sn_imul (hd : decode (mC j) pc = .ok (.imul, 1)) : Snd l D AC b z L xs G j pc (oII (fun x y => x * y) (pc + 1)) := by
  intro ls st h Q kk p e R s m args below meth c QQ C E H locs lsR cells slots hP hS hB hL
  unfold oII at kk
  split at kk
  · exact lv_imul C.1 C.2.1 hd (kk p e R s m args below meth c QQ C E H locs lsR cells slots hP hS hB hL)
  · exact kk.elim
theorem sn_iand (hd : decode (mC j) pc = .ok (.iand, 1)) : Snd l D AC b z L xs G j pc (oII (fun x y => x &&& y) (pc + 1)) := by
  intro ls st h Q kk p e R s m args below meth c QQ C E H locs lsR cells slots hP hS hB hL
  unfold oII at kk
  split at kk
  · exact lv_iand C.1 C.2.1 hd (kk p e R s m args below meth c QQ C E H locs lsR cells slots hP hS hB hL)
  · exact kk.elim
theorem sn_ior (hd : decode (mC j) pc = .ok (.ior, 1)) : Snd l D AC b z L xs G j pc (oII (fun x y => x ||| y) (pc + 1)) := by
  intro ls st h Q kk p e R s m args below meth c QQ C E H locs lsR cells slots hP hS hB hL
  unfold oII at kk
  split at kk
  · exact lv_ior C.1 C.2.1 hd (kk p e R s m args below meth c QQ C E H locs lsR cells slots hP hS hB hL)
  · exact kk.elim
theorem sn_ixor (hd : decode (mC j) pc = .ok (.ixor, 1)) : Snd l D AC b z L xs G j pc (oII (fun x y => x ^^^ y) (pc + 1)) := by
  intro ls st h Q kk p e R s m args below meth c QQ C E H locs lsR cells slots hP hS hB hL
  unfold oII at kk
  split at kk
  · exact lv_ixor C.1 C.2.1 hd (kk p e R s m args below meth c QQ C E H locs lsR cells slots hP hS hB hL)
  · exact kk.elim
theorem sn_ishl (hd : decode (mC j) pc = .ok (.ishl, 1)) : Snd l D AC b z L xs G j pc (oII (fun x y => x <<< (y &&& 31)) (pc + 1)) := by
  intro ls st h Q kk p e R s m args below meth c QQ C E H locs lsR cells slots hP hS hB hL
  unfold oII at kk
  split at kk
  · exact lv_ishl C.1 C.2.1 hd (kk p e R s m args below meth c QQ C E H locs lsR cells slots hP hS hB hL)
  · exact kk.elim
theorem sn_ishr (hd : decode (mC j) pc = .ok (.ishr, 1)) : Snd l D AC b z L xs G j pc (oII (fun x y => x >>> (y &&& 31)) (pc + 1)) := by
  intro ls st h Q kk p e R s m args below meth c QQ C E H locs lsR cells slots hP hS hB hL
  unfold oII at kk
  split at kk
  · exact lv_ishr C.1 C.2.1 hd (kk p e R s m args below meth c QQ C E H locs lsR cells slots hP hS hB hL)
  · exact kk.elim
theorem sn_iushr (hd : decode (mC j) pc = .ok (.iushr, 1)) : Snd l D AC b z L xs G j pc (oII (fun x y => (x.toUInt32 >>> (y.toUInt32 &&& Int32.toUInt32 31)).toInt32) (pc + 1)) := by
  intro ls st h Q kk p e R s m args below meth c QQ C E H locs lsR cells slots hP hS hB hL
  unfold oII at kk
  split at kk
  · exact lv_iushr C.1 C.2.1 hd rfl (kk p e R s m args below meth c QQ C E H locs lsR cells slots hP hS hB hL)
  · exact kk.elim
theorem sn_idiv (hd : decode (mC j) pc = .ok (.idiv, 1)) : Snd l D AC b z L xs G j pc (oIq (fun x y => x / y) (pc + 1)) := by
  intro ls st h Q kk p e R s m args below meth c QQ C E H locs lsR cells slots hP hS hB hL
  unfold oIq at kk
  split at kk
  · split at kk
    · exact kk.elim
    · rename_i hy
      exact lv_idiv C.1 C.2.1 hd hy (kk p e R s m args below meth c QQ C E H locs lsR cells slots hP hS hB hL)
  · exact kk.elim
theorem sn_irem (hd : decode (mC j) pc = .ok (.irem, 1)) : Snd l D AC b z L xs G j pc (oIq (fun x y => x - x / y * y) (pc + 1)) := by
  intro ls st h Q kk p e R s m args below meth c QQ C E H locs lsR cells slots hP hS hB hL
  unfold oIq at kk
  split at kk
  · split at kk
    · exact kk.elim
    · rename_i hy
      exact lv_irem C.1 C.2.1 hd hy (kk p e R s m args below meth c QQ C E H locs lsR cells slots hP hS hB hL)
  · exact kk.elim
theorem sn_ladd (hd : decode (mC j) pc = .ok (.ladd, 1)) : Snd l D AC b z L xs G j pc (oLL (fun x y => x + y) (pc + 1)) := by
  intro ls st h Q kk p e R s m args below meth c QQ C E H locs lsR cells slots hP hS hB hL
  unfold oLL at kk
  split at kk
  · exact lv_ladd C.1 C.2.1 hd (kk p e R s m args below meth c QQ C E H locs lsR cells slots hP hS hB hL)
  · exact kk.elim
theorem sn_lsub (hd : decode (mC j) pc = .ok (.lsub, 1)) : Snd l D AC b z L xs G j pc (oLL (fun x y => x - y) (pc + 1)) := by
  intro ls st h Q kk p e R s m args below meth c QQ C E H locs lsR cells slots hP hS hB hL
  unfold oLL at kk
  split at kk
  · exact lv_lsub C.1 C.2.1 hd (kk p e R s m args below meth c QQ C E H locs lsR cells slots hP hS hB hL)
  · exact kk.elim
theorem sn_lmul (hd : decode (mC j) pc = .ok (.lmul, 1)) : Snd l D AC b z L xs G j pc (oLL (fun x y => x * y) (pc + 1)) := by
  intro ls st h Q kk p e R s m args below meth c QQ C E H locs lsR cells slots hP hS hB hL
  unfold oLL at kk
  split at kk
  · exact lv_lmul C.1 C.2.1 hd (kk p e R s m args below meth c QQ C E H locs lsR cells slots hP hS hB hL)
  · exact kk.elim
theorem sn_land (hd : decode (mC j) pc = .ok (.land, 1)) : Snd l D AC b z L xs G j pc (oLL (fun x y => x &&& y) (pc + 1)) := by
  intro ls st h Q kk p e R s m args below meth c QQ C E H locs lsR cells slots hP hS hB hL
  unfold oLL at kk
  split at kk
  · exact lv_land C.1 C.2.1 hd (kk p e R s m args below meth c QQ C E H locs lsR cells slots hP hS hB hL)
  · exact kk.elim
theorem sn_lor (hd : decode (mC j) pc = .ok (.lor, 1)) : Snd l D AC b z L xs G j pc (oLL (fun x y => x ||| y) (pc + 1)) := by
  intro ls st h Q kk p e R s m args below meth c QQ C E H locs lsR cells slots hP hS hB hL
  unfold oLL at kk
  split at kk
  · exact lv_lor C.1 C.2.1 hd (kk p e R s m args below meth c QQ C E H locs lsR cells slots hP hS hB hL)
  · exact kk.elim
theorem sn_lxor (hd : decode (mC j) pc = .ok (.lxor, 1)) : Snd l D AC b z L xs G j pc (oLL (fun x y => x ^^^ y) (pc + 1)) := by
  intro ls st h Q kk p e R s m args below meth c QQ C E H locs lsR cells slots hP hS hB hL
  unfold oLL at kk
  split at kk
  · exact lv_lxor C.1 C.2.1 hd (kk p e R s m args below meth c QQ C E H locs lsR cells slots hP hS hB hL)
  · exact kk.elim
theorem sn_lushr (hd : decode (mC j) pc = .ok (.lushr, 1)) : Snd l D AC b z L xs G j pc (oLI (fun x y => (x.toUInt64 >>> (y.toInt64.toUInt64 &&& Int64.toUInt64 63)).toInt64) (pc + 1)) := by
  intro ls st h Q kk p e R s m args below meth c QQ C E H locs lsR cells slots hP hS hB hL
  unfold oLI at kk
  split at kk
  · exact lv_lushr C.1 C.2.1 hd rfl (kk p e R s m args below meth c QQ C E H locs lsR cells slots hP hS hB hL)
  · exact kk.elim
theorem sn_lshl (hd : decode (mC j) pc = .ok (.lshl, 1)) : Snd l D AC b z L xs G j pc (oLI (fun x y => x <<< (y.toInt64 &&& 63)) (pc + 1)) := by
  intro ls st h Q kk p e R s m args below meth c QQ C E H locs lsR cells slots hP hS hB hL
  unfold oLI at kk
  split at kk
  · exact lv_lshl C.1 C.2.1 hd rfl (kk p e R s m args below meth c QQ C E H locs lsR cells slots hP hS hB hL)
  · exact kk.elim
theorem sn_lshr (hd : decode (mC j) pc = .ok (.lshr, 1)) : Snd l D AC b z L xs G j pc (oLI (fun x y => x >>> (y.toInt64 &&& 63)) (pc + 1)) := by
  intro ls st h Q kk p e R s m args below meth c QQ C E H locs lsR cells slots hP hS hB hL
  unfold oLI at kk
  split at kk
  · exact lv_lshr C.1 C.2.1 hd rfl (kk p e R s m args below meth c QQ C E H locs lsR cells slots hP hS hB hL)
  · exact kk.elim
theorem sn_i2l (hd : decode (mC j) pc = .ok (.i2l, 1)) : Snd l D AC b z L xs G j pc (oI2L (pc + 1)) := by
  intro ls st h Q kk p e R s m args below meth c QQ C E H locs lsR cells slots hP hS hB hL
  unfold oI2L at kk
  split at kk
  · exact lv_i2l C.1 C.2.1 hd rfl (kk p e R s m args below meth c QQ C E H locs lsR cells slots hP hS hB hL)
  · exact kk.elim
theorem sn_l2i (hd : decode (mC j) pc = .ok (.l2i, 1)) : Snd l D AC b z L xs G j pc (oL2I (pc + 1)) := by
  intro ls st h Q kk p e R s m args below meth c QQ C E H locs lsR cells slots hP hS hB hL
  unfold oL2I at kk
  split at kk
  · exact lv_l2i C.1 C.2.1 hd rfl (kk p e R s m args below meth c QQ C E H locs lsR cells slots hP hS hB hL)
  · exact kk.elim
theorem sn_lcmp (hd : decode (mC j) pc = .ok (.lcmp, 1)) : Snd l D AC b z L xs G j pc (oLcmp (pc + 1)) := by
  intro ls st h Q kk p e R s m args below meth c QQ C E H locs lsR cells slots hP hS hB hL
  unfold oLcmp at kk
  split at kk
  · exact W.lcmp C.1 C.2.1 hd (kk p e R s m args below meth c QQ C E H locs lsR cells slots hP hS hB hL)
  · exact kk.elim
theorem sn_dadd (hd : decode (mC j) pc = .ok (.dadd, 1)) : Snd l D AC b z L xs G j pc (oDD FP.dadd (pc + 1)) := by
  intro ls st h Q kk p e R s m args below meth c QQ C E H locs lsR cells slots hP hS hB hL
  unfold oDD at kk
  split at kk
  · split at kk
    · rename_i hy
      exact lv_dadd C.1 C.2.1 hd (by unfold okD at hy; unfold vf_n64; exact of_decide_eq_true hy) (kk p e R s m args below meth c QQ C E H locs lsR cells slots hP hS hB hL)
    · exact kk.elim
  · exact kk.elim
theorem sn_dsub (hd : decode (mC j) pc = .ok (.dsub, 1)) : Snd l D AC b z L xs G j pc (oDD FP.dsub (pc + 1)) := by
  intro ls st h Q kk p e R s m args below meth c QQ C E H locs lsR cells slots hP hS hB hL
  unfold oDD at kk
  split at kk
  · split at kk
    · rename_i hy
      exact lv_dsub C.1 C.2.1 hd (by unfold okD at hy; unfold vf_n64; exact of_decide_eq_true hy) (kk p e R s m args below meth c QQ C E H locs lsR cells slots hP hS hB hL)
    · exact kk.elim
  · exact kk.elim
theorem sn_dmul (hd : decode (mC j) pc = .ok (.dmul, 1)) : Snd l D AC b z L xs G j pc (oDD FP.dmul (pc + 1)) := by
  intro ls st h Q kk p e R s m args below meth c QQ C E H locs lsR cells slots hP hS hB hL
  unfold oDD at kk
  split at kk
  · split at kk
    · rename_i hy
      exact lv_dmul C.1 C.2.1 hd (by unfold okD at hy; unfold vf_n64; exact of_decide_eq_true hy) (kk p e R s m args below meth c QQ C E H locs lsR cells slots hP hS hB hL)
    · exact kk.elim
  · exact kk.elim
theorem sn_ddiv (hd : decode (mC j) pc = .ok (.ddiv, 1)) : Snd l D AC b z L xs G j pc (oDD FP.ddiv (pc + 1)) := by
  intro ls st h Q kk p e R s m args below meth c QQ C E H locs lsR cells slots hP hS hB hL
  unfold oDD at kk
  split at kk
  · split at kk
    · rename_i hy
      exact lv_ddiv C.1 C.2.1 hd (by unfold okD at hy; unfold vf_n64; exact of_decide_eq_true hy) (kk p e R s m args below meth c QQ C E H locs lsR cells slots hP hS hB hL)
    · exact kk.elim
  · exact kk.elim
theorem sn_dcmp {op : CmpOp} (hd : decode (mC j) pc = .ok (.dcmp op, 1)) : Snd l D AC b z L xs G j pc (oDcmp op (pc + 1)) := by
  intro ls st h Q kk p e R s m args below meth c QQ C E H locs lsR cells slots hP hS hB hL
  unfold oDcmp at kk
  split at kk
  · exact lv_dcmp C.1 C.2.1 hd (kk p e R s m args below meth c QQ C E H locs lsR cells slots hP hS hB hL)
  · exact kk.elim
theorem sn_i2d (hd : decode (mC j) pc = .ok (.i2d, 1)) : Snd l D AC b z L xs G j pc (oI2D (pc + 1)) := by
  intro ls st h Q kk p e R s m args below meth c QQ C E H locs lsR cells slots hP hS hB hL
  unfold oI2D at kk
  split at kk
  · exact lv_i2d C.1 C.2.1 hd (kk p e R s m args below meth c QQ C E H locs lsR cells slots hP hS hB hL)
  · exact kk.elim
theorem sn_l2d (hd : decode (mC j) pc = .ok (.l2d, 1)) : Snd l D AC b z L xs G j pc (oL2D (pc + 1)) := by
  intro ls st h Q kk p e R s m args below meth c QQ C E H locs lsR cells slots hP hS hB hL
  unfold oL2D at kk
  split at kk
  · exact lv_l2d C.1 C.2.1 hd (kk p e R s m args below meth c QQ C E H locs lsR cells slots hP hS hB hL)
  · exact kk.elim
theorem sn_d2l (hd : decode (mC j) pc = .ok (.d2l, 1)) : Snd l D AC b z L xs G j pc (oD2L (pc + 1)) := by
  intro ls st h Q kk p e R s m args below meth c QQ C E H locs lsR cells slots hP hS hB hL
  unfold oD2L at kk
  split at kk
  · exact lv_d2l C.1 C.2.1 hd (kk p e R s m args below meth c QQ C E H locs lsR cells slots hP hS hB hL)
  · exact kk.elim
theorem sn_dup (hd : decode (mC j) pc = .ok (.dup, 1)) : Snd l D AC b z L xs G j pc (oDup (pc + 1)) := by
  intro ls st h Q kk p e R s m args below meth c QQ C E H locs lsR cells slots hP hS hB hL
  unfold oDup at kk
  split at kk
  · split at kk
    · exact kk.elim
    · rename_i hw
      exact lv_dup C.1 C.2.1 hd (by rw [cat_toV]; unfold catV; rw [if_neg hw]) (kk p e R s m args below meth c QQ C E H locs lsR cells slots hP hS hB hL)
  · exact kk.elim
theorem sn_pop (hd : decode (mC j) pc = .ok (.pop, 1)) : Snd l D AC b z L xs G j pc (oPop (pc + 1)) := by
  intro ls st h Q kk p e R s m args below meth c QQ C E H locs lsR cells slots hP hS hB hL
  unfold oPop at kk
  split at kk
  · split at kk
    · exact kk.elim
    · rename_i hw
      exact lv_pop C.1 C.2.1 hd (by rw [cat_toV]; unfold catV; rw [if_neg hw]) (kk p e R s m args below meth c QQ C E H locs lsR cells slots hP hS hB hL)
  · exact kk.elim
theorem sn_dup2 (hd : decode (mC j) pc = .ok (.dup2, 1)) : Snd l D AC b z L xs G j pc (oDup2 (pc + 1)) := by
  intro ls st h Q kk p e R s m args below meth c QQ C E H locs lsR cells slots hP hS hB hL
  unfold oDup2 at kk
  split at kk
  · split at kk
    · exact kk.elim
    · rename_i hw
      simp only [Bool.or_eq_true, not_or] at hw
      exact lv_dup2_11 C.1 C.2.1 hd (by rw [cat_toV]; unfold catV; rw [if_neg hw.1]) (by rw [cat_toV]; unfold catV; rw [if_neg hw.2]) (kk p e R s m args below meth c QQ C E H locs lsR cells slots hP hS hB hL)
  · exact kk.elim
theorem sn_if_eq {off : Int} {t : Nat} (hd : decode (mC j) pc = .ok (.ifCond .eq off, 3)) (ht : (pc : Int) + off = (t : Int)) : Snd l D AC b z L xs G j pc (oIf (fun x => decide (x = 0)) t (pc + 3)) := by
  intro ls st h Q kk p e R s m args below meth c QQ C E H locs lsR cells slots hP hS hB hL
  unfold oIf at kk
  split at kk
  · dsimp only [ndX] at kk
    exact lv_if_eq C.1 C.2.1 hd ht (fun hx => by rw [if_pos (by simpa using hx)] at kk; exact kk p e R s m args below meth c QQ C E H locs lsR cells slots hP hS hB hL) (fun hx => by rw [if_neg (by simpa using hx)] at kk; exact kk p e R s m args below meth c QQ C E H locs lsR cells slots hP hS hB hL)
  · exact kk.elim
theorem sn_if_ne {off : Int} {t : Nat} (hd : decode (mC j) pc = .ok (.ifCond .ne off, 3)) (ht : (pc : Int) + off = (t : Int)) : Snd l D AC b z L xs G j pc (oIf (fun x => decide (¬ x = 0)) t (pc + 3)) := by
  intro ls st h Q kk p e R s m args below meth c QQ C E H locs lsR cells slots hP hS hB hL
  unfold oIf at kk
  split at kk
  · dsimp only [ndX] at kk
    exact lv_if_ne C.1 C.2.1 hd ht (fun hx => by rw [if_pos (by simpa using hx)] at kk; exact kk p e R s m args below meth c QQ C E H locs lsR cells slots hP hS hB hL) (fun hx => by rw [if_neg (by simpa using hx)] at kk; exact kk p e R s m args below meth c QQ C E H locs lsR cells slots hP hS hB hL)
  · exact kk.elim
theorem sn_if_lt {off : Int} {t : Nat} (hd : decode (mC j) pc = .ok (.ifCond .lt off, 3)) (ht : (pc : Int) + off = (t : Int)) : Snd l D AC b z L xs G j pc (oIf (fun x => decide (x < 0)) t (pc + 3)) := by
  intro ls st h Q kk p e R s m args below meth c QQ C E H locs lsR cells slots hP hS hB hL
  unfold oIf at kk
  split at kk
  · dsimp only [ndX] at kk
    exact lv_if_lt C.1 C.2.1 hd ht (fun hx => by rw [if_pos (by simpa using hx)] at kk; exact kk p e R s m args below meth c QQ C E H locs lsR cells slots hP hS hB hL) (fun hx => by rw [if_neg (by simpa using hx)] at kk; exact kk p e R s m args below meth c QQ C E H locs lsR cells slots hP hS hB hL)
  · exact kk.elim
theorem sn_if_ge {off : Int} {t : Nat} (hd : decode (mC j) pc = .ok (.ifCond .ge off, 3)) (ht : (pc : Int) + off = (t : Int)) : Snd l D AC b z L xs G j pc (oIf (fun x => decide (0 ≤ x)) t (pc + 3)) := by
  intro ls st h Q kk p e R s m args below meth c QQ C E H locs lsR cells slots hP hS hB hL
  unfold oIf at kk
  split at kk
  · dsimp only [ndX] at kk
    exact lv_if_ge C.1 C.2.1 hd ht (fun hx => by rw [if_pos (by simpa using hx)] at kk; exact kk p e R s m args below meth c QQ C E H locs lsR cells slots hP hS hB hL) (fun hx => by rw [if_neg (by simpa using hx)] at kk; exact kk p e R s m args below meth c QQ C E H locs lsR cells slots hP hS hB hL)
  · exact kk.elim
theorem sn_if_gt {off : Int} {t : Nat} (hd : decode (mC j) pc = .ok (.ifCond .gt off, 3)) (ht : (pc : Int) + off = (t : Int)) : Snd l D AC b z L xs G j pc (oIf (fun x => decide (0 < x)) t (pc + 3)) := by
  intro ls st h Q kk p e R s m args below meth c QQ C E H locs lsR cells slots hP hS hB hL
  unfold oIf at kk
  split at kk
  · dsimp only [ndX] at kk
    exact lv_if_gt C.1 C.2.1 hd ht (fun hx => by rw [if_pos (by simpa using hx)] at kk; exact kk p e R s m args below meth c QQ C E H locs lsR cells slots hP hS hB hL) (fun hx => by rw [if_neg (by simpa using hx)] at kk; exact kk p e R s m args below meth c QQ C E H locs lsR cells slots hP hS hB hL)
  · exact kk.elim
theorem sn_if_le {off : Int} {t : Nat} (hd : decode (mC j) pc = .ok (.ifCond .le off, 3)) (ht : (pc : Int) + off = (t : Int)) : Snd l D AC b z L xs G j pc (oIf (fun x => decide (x ≤ 0)) t (pc + 3)) := by
  intro ls st h Q kk p e R s m args below meth c QQ C E H locs lsR cells slots hP hS hB hL
  unfold oIf at kk
  split at kk
  · dsimp only [ndX] at kk
    exact lv_if_le C.1 C.2.1 hd ht (fun hx => by rw [if_pos (by simpa using hx)] at kk; exact kk p e R s m args below meth c QQ C E H locs lsR cells slots hP hS hB hL) (fun hx => by rw [if_neg (by simpa using hx)] at kk; exact kk p e R s m args below meth c QQ C E H locs lsR cells slots hP hS hB hL)
  · exact kk.elim
theorem sn_icmp_eq {off : Int} {t : Nat} (hd : decode (mC j) pc = .ok (.if_icmp .eq off, 3)) (ht : (pc : Int) + off = (t : Int)) : Snd l D AC b z L xs G j pc (oIC (fun x y => decide (x = y)) t (pc + 3)) := by
  intro ls st h Q kk p e R s m args below meth c QQ C E H locs lsR cells slots hP hS hB hL
  unfold oIC at kk
  split at kk
  · dsimp only [ndX] at kk
    exact lv_icmp_eq C.1 C.2.1 hd ht (fun hx => by rw [if_pos (by simpa using hx)] at kk; exact kk p e R s m args below meth c QQ C E H locs lsR cells slots hP hS hB hL) (fun hx => by rw [if_neg (by simpa using hx)] at kk; exact kk p e R s m args below meth c QQ C E H locs lsR cells slots hP hS hB hL)
  · exact kk.elim
theorem sn_icmp_ne {off : Int} {t : Nat} (hd : decode (mC j) pc = .ok (.if_icmp .ne off, 3)) (ht : (pc : Int) + off = (t : Int)) : Snd l D AC b z L xs G j pc (oIC (fun x y => decide (¬ x = y)) t (pc + 3)) := by
  intro ls st h Q kk p e R s m args below meth c QQ C E H locs lsR cells slots hP hS hB hL
  unfold oIC at kk
  split at kk
  · dsimp only [ndX] at kk
    exact lv_icmp_ne C.1 C.2.1 hd ht (fun hx => by rw [if_pos (by simpa using hx)] at kk; exact kk p e R s m args below meth c QQ C E H locs lsR cells slots hP hS hB hL) (fun hx => by rw [if_neg (by simpa using hx)] at kk; exact kk p e R s m args below meth c QQ C E H locs lsR cells slots hP hS hB hL)
  · exact kk.elim
theorem sn_icmp_lt {off : Int} {t : Nat} (hd : decode (mC j) pc = .ok (.if_icmp .lt off, 3)) (ht : (pc : Int) + off = (t : Int)) : Snd l D AC b z L xs G j pc (oIC (fun x y => decide (x < y)) t (pc + 3)) := by
  intro ls st h Q kk p e R s m args below meth c QQ C E H locs lsR cells slots hP hS hB hL
  unfold oIC at kk
  split at kk
  · dsimp only [ndX] at kk
    exact lv_icmp_lt C.1 C.2.1 hd ht (fun hx => by rw [if_pos (by simpa using hx)] at kk; exact kk p e R s m args below meth c QQ C E H locs lsR cells slots hP hS hB hL) (fun hx => by rw [if_neg (by simpa using hx)] at kk; exact kk p e R s m args below meth c QQ C E H locs lsR cells slots hP hS hB hL)
  · exact kk.elim
theorem sn_icmp_ge {off : Int} {t : Nat} (hd : decode (mC j) pc = .ok (.if_icmp .ge off, 3)) (ht : (pc : Int) + off = (t : Int)) : Snd l D AC b z L xs G j pc (oIC (fun x y => decide (y ≤ x)) t (pc + 3)) := by
  intro ls st h Q kk p e R s m args below meth c QQ C E H locs lsR cells slots hP hS hB hL
  unfold oIC at kk
  split at kk
  · dsimp only [ndX] at kk
    exact lv_icmp_ge C.1 C.2.1 hd ht (fun hx => by rw [if_pos (by simpa using hx)] at kk; exact kk p e R s m args below meth c QQ C E H locs lsR cells slots hP hS hB hL) (fun hx => by rw [if_neg (by simpa using hx)] at kk; exact kk p e R s m args below meth c QQ C E H locs lsR cells slots hP hS hB hL)
  · exact kk.elim
theorem sn_icmp_gt {off : Int} {t : Nat} (hd : decode (mC j) pc = .ok (.if_icmp .gt off, 3)) (ht : (pc : Int) + off = (t : Int)) : Snd l D AC b z L xs G j pc (oIC (fun x y => decide (y < x)) t (pc + 3)) := by
  intro ls st h Q kk p e R s m args below meth c QQ C E H locs lsR cells slots hP hS hB hL
  unfold oIC at kk
  split at kk
  · dsimp only [ndX] at kk
    exact lv_icmp_gt C.1 C.2.1 hd ht (fun hx => by rw [if_pos (by simpa using hx)] at kk; exact kk p e R s m args below meth c QQ C E H locs lsR cells slots hP hS hB hL) (fun hx => by rw [if_neg (by simpa using hx)] at kk; exact kk p e R s m args below meth c QQ C E H locs lsR cells slots hP hS hB hL)
  · exact kk.elim
theorem sn_icmp_le {off : Int} {t : Nat} (hd : decode (mC j) pc = .ok (.if_icmp .le off, 3)) (ht : (pc : Int) + off = (t : Int)) : Snd l D AC b z L xs G j pc (oIC (fun x y => decide (x ≤ y)) t (pc + 3)) := by
  intro ls st h Q kk p e R s m args below meth c QQ C E H locs lsR cells slots hP hS hB hL
  unfold oIC at kk
  split at kk
  · dsimp only [ndX] at kk
    exact lv_icmp_le C.1 C.2.1 hd ht (fun hx => by rw [if_pos (by simpa using hx)] at kk; exact kk p e R s m args below meth c QQ C E H locs lsR cells slots hP hS hB hL) (fun hx => by rw [if_neg (by simpa using hx)] at kk; exact kk p e R s m args below meth c QQ C E H locs lsR cells slots hP hS hB hL)
  · exact kk.elim
theorem sn_goto {off : Int} {t : Nat} (hd : decode (mC j) pc = .ok (.goto off, 3)) (ht : (pc : Int) + off = (t : Int)) : Snd l D AC b z L xs G j pc (oGo t) := by
  intro ls st h Q kk p e R s m args below meth c QQ C E H locs lsR cells slots hP hS hB hL
  exact lv_goto C.1 C.2.1 hd ht (kk p e R s m args below meth c QQ C E H locs lsR cells slots hP hS hB hL)
theorem sn_ifnull {off : Int} {t : Nat} (hd : decode (mC j) pc = .ok (.ifnull off, 3)) (ht : (pc : Int) + off = (t : Int)) : Snd l D AC b z L xs G j pc (oIfN t (pc + 3)) := by
  intro ls st h Q kk p e R s m args below meth c QQ C E H locs lsR cells slots hP hS hB hL
  unfold oIfN at kk
  split at kk
  · rename_i r _
    cases r with
    | none => exact lv_ifnullN C.1 C.2.1 hd ht (kk p e R s m args below meth c QQ C E H locs lsR cells slots hP hS hB hL)
    | some a => exact lv_ifnull C.1 C.2.1 hd (kk p e R s m args below meth c QQ C E H locs lsR cells slots hP hS hB hL)
  · exact kk.elim
theorem sn_ifnonnull {off : Int} {t : Nat} (hd : decode (mC j) pc = .ok (.ifnonnull off, 3)) (ht : (pc : Int) + off = (t : Int)) : Snd l D AC b z L xs G j pc (oIfNN t (pc + 3)) := by
  intro ls st h Q kk p e R s m args below meth c QQ C E H locs lsR cells slots hP hS hB hL
  unfold oIfNN at kk
  split at kk
  · rename_i r _
    cases r with
    | none => exact lv_ifnonnullN C.1 C.2.1 hd (kk p e R s m args below meth c QQ C E H locs lsR cells slots hP hS hB hL)
    | some a => exact lv_ifnonnull C.1 C.2.1 hd ht (kk p e R s m args below meth c QQ C E H locs lsR cells slots hP hS hB hL)
  · exact kk.elim
theorem sn_tsw {d lo hi : Int} {offs : Array Int} {len : Nat} {ts : List Nat} {t : Nat} (hd : decode (mC j) pc = .ok (.tableswitch d lo hi offs, len)) (ht : (pc : Int) + d = (t : Int)) (ho : offs.toList.map (fun o => (pc : Int) + o) = ts.map (fun t : Nat => (t : Int))) (hn : (ts.length : Int) = hi - lo + 1) : Snd l D AC b z L xs G j pc (oTsw lo ts t) := by
  intro ls st h Q kk p e R s m args below meth c QQ C E H locs lsR cells slots hP hS hB hL
  unfold oTsw at kk
  split at kk
  · rename_i x r
    dsimp only [ndX] at kk
    unfold tsw at kk
    by_cases h1 : x.toInt < lo
    · rw [if_pos h1] at kk
      exact lv_tableOut C.1 C.2.1 hd (Or.inl h1) ht (kk p e R s m args below meth c QQ C E H locs lsR cells slots hP hS hB hL)
    · rw [if_neg h1] at kk
      by_cases h2 : hi < x.toInt
      · rw [List.getElem?_eq_none (by omega)] at kk
        exact lv_tableOut C.1 C.2.1 hd (Or.inr h2) ht (kk p e R s m args below meth c QQ C E H locs lsR cells slots hP hS hB hL)
      · have hl : (x.toInt - lo).toNat < ts.length := by omega
        have e9 := congrArg (fun l => l[(x.toInt - lo).toNat]?) ho
        simp only [List.getElem?_map, List.getElem?_eq_getElem hl, Option.map_some] at e9
        rw [List.getElem?_eq_getElem hl] at kk
        cases hv : offs.toList[(x.toInt - lo).toNat]? with
        | none => rw [hv] at e9; cases e9
        | some off =>
          rw [hv] at e9
          exact lv_tableIn C.1 C.2.1 hd h1 h2 (by rw [← Array.getElem?_toList]; exact hv) (Option.some.inj e9) (kk p e R s m args below meth c QQ C E H locs lsR cells slots hP hS hB hL)
  · exact kk.elim
theorem lsw_off : ∀ (qs : List (Int × Int)) (ps : List (Int32 × Nat)) (d : Int) (t : Nat) (x : Int32), (pc : Int) + d = (t : Int) → ps.map (fun q => (q.1.toInt, (q.2 : Int))) = qs.map (fun q => (q.1, (pc : Int) + q.2)) → (pc : Int) + Op.lookupswitch.offset qs d x.toInt = (lsw ps t x : Int)
  | [], [], d, t, x, hd, _ => hd
  | [], _ :: _, _, _, _, _, h => by simp at h
  | _ :: _, [], _, _, _, _, h => by simp at h
  | (a, o) :: qs, (k, t1) :: ps, d, t, x, hd, h => by
    simp only [List.map_cons, List.cons.injEq, Prod.mk.injEq] at h
    obtain ⟨⟨h1, h2⟩, h3⟩ := h
    have e : lsw ((k, t1) :: ps) t x = if x = k then t1 else lsw ps t x := rfl
    rw [e, Op.lookupswitch.offset_cons]
    by_cases hx : x = k
    · rw [if_pos hx, if_pos (by rw [hx]; exact h1.symm)]
      exact h2.symm
    · rw [if_neg hx, if_neg (fun q => hx (Int32.toInt_inj.mp (by rw [h1]; exact q.symm)))]
      exact lsw_off qs ps d t x hd h3
theorem sn_lsw {d : Int} {qs : Array (Int × Int)} {len : Nat} {ps : List (Int32 × Nat)} {t : Nat} (hd : decode (mC j) pc = .ok (.lookupswitch d qs, len)) (hs : (qs.toList.zip (qs.toList.drop 1)).all (fun (a, next) => a.1 < next.1) = true) (ht : (pc : Int) + d = (t : Int)) (ho : ps.map (fun q => (q.1.toInt, (q.2 : Int))) = qs.toList.map (fun q => (q.1, (pc : Int) + q.2))) : Snd l D AC b z L xs G j pc (oLsw ps t) := by
  intro ls st h Q kk p e R s m args below meth c QQ C E H locs lsR cells slots hP hS hB hL
  unfold oLsw at kk
  split at kk
  · rename_i x r
    exact lv_lookup C.1 C.2.1 hd hs rfl (lsw_off qs.toList ps d t x ht ho) (kk p e R s m args below meth c QQ C E H locs lsR cells slots hP hS hB hL)
  · exact kk.elim
end OPS
