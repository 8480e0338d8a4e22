/-! the method's surroundings, what holds at each pc, how a method ends -/
section SOUND2
variable (l : Launch) (D : va_G) (AC : Nat → ClassId) (b : Nat × (Nat → Nat)) (z L : Nat) (xs : Nat → Int32)
def arO (ty : FieldType) (U : State) : Prop := (Cond.arrayOver ty).before #[] U = true
theorem arO.moved {ty : FieldType} {u U : State} (hvm : u.vm.Alike U.vm) (h : arO ty u) : arO ty U := by
  have h1 : (Cond.arrayOver ty).before #[] (u.setVm U.vm) = true := by rw [Cond.arrayOver_setVmC hvm]; exact h
  unfold arO
  simp only [Cond.before, Cond.holds, Cond.value] at h1 ⊢
  exact h1
/-- a body of a method that the machine has no entry for -/
theorem ms_ofWF {l : Launch} {y : MethodName} {ws ws' : List Cond} {rm : Room} {Pc : Array Value → State → Prop} {Qc : Array Value → State → Outcome → State → Prop} {XC : String → State → State → Prop} {mc ms : Nat} {free : Addr → Prop} {cc : ByteArray} {maxL : Nat} {ret : Option FieldType}
    (hy : plainFor y = true) (hw : ws = Cond.code y cc maxL ret :: ws')
    (body : ∀ p e s m args below meth c s₁, BodyLoose p l y (headSpec ws rm) cc maxL ret e s m args below meth c s₁ → c.maxLocals = maxL → (∀ x ∈ c.exceptionTable.toList, False) → Pc args s →
      W p l e (headSpec ws rm).room s m args below meth c s.heap [] 0 0 (vx_MQ below Qc XC args s mc ms free) (entryFrame m args maxL)) : vx_Met l y ws rm Pc Qc XC mc ms free := by
  have hin : Cond.code y cc maxL ret ∈ ws := by rw [hw]; exact List.mem_cons_self
  refine MetFree.of_bodySF (code := cc) (maxLocals := maxL) (ret := ret) hy ?_ ?_
  · intro args s m h hn
    obtain ⟨meth, c, h1, h2, h3, h4, h5, h6, -, -⟩ := Cond.code_spec hn (atoms_spec (ws := ws) h _ hin)
    exact ⟨meth, c, h1, h2, h3, h4, h5, h6⟩
  · intro p e s m args below meth c s₁ B hml hP _
    have ht : ∀ x ∈ c.exceptionTable.toList, False := by
      obtain ⟨meth9, c9, h1, h2, -, -, -, -, h7, -⟩ := Cond.code_spec B.named (atoms_spec (ws := ws) B.pre _ hin)
      cases Option.some.inj (h1.symm.trans B.method)
      cases Option.some.inj (h2.symm.trans (Stand.of_body B).code)
      intro x hx
      rw [Array.isEmpty_iff.mp h7] at hx
      cases hx
    obtain ⟨t, a1, o, b1, b2, b3⟩ := body p e s m args below meth c s₁ B hml ht hP s₁ (by rw [B.state]; rfl) (Stand.of_body B)
    exact ⟨t, o, a1, b1, b2, b3⟩
theorem ms_ofWHF {l : Launch} {y : MethodName} {ws ws' : List Cond} {rm : Room} {Pc : Array Value → State → Prop} {Qc : Array Value → State → Outcome → State → Prop} {XC : String → State → State → Prop} {mc ms : Nat} {free : Addr → Prop} {cc : ByteArray} {maxL : Nat} {ret : Option FieldType} {hh : List (Nat × Nat × Nat × Nat)}
    (hy : plainFor y = true) (hw : ws = Cond.codeWith y cc maxL ret hh :: ws')
    (body : ∀ p e s m args below meth c s₁, BodyLoose p l y (headSpec ws rm) cc maxL ret e s m args below meth c s₁ → c.maxLocals = maxL → Pc args s →
      W p l e (headSpec ws rm).room s m args below meth c s.heap [] 0 0 (vx_MQ below Qc XC args s mc ms free) (entryFrame m args maxL)) : vx_Met l y ws rm Pc Qc XC mc ms free := by
  refine MetFree.of_bodySF (code := cc) (maxLocals := maxL) (ret := ret) hy ?_ ?_
  · intro args s m h hn
    obtain ⟨m9, meth, c, hn9, h1, h2, h3, h4, -, h5, h6, -⟩ := Cond.codeWith_spec (atoms_spec (ws := ws) h _ (by rw [hw]; exact List.mem_cons_self))
    cases hn.symm.trans hn9
    exact ⟨meth, c, h1, h2, h3, h4, h5, h6⟩
  · intro p e s m args below meth c s₁ B hml hP _
    obtain ⟨t, a1, o, b1, b2, b3⟩ := body p e s m args below meth c s₁ B hml hP s₁ (by rw [B.state]; rfl) (Stand.of_body B)
    exact ⟨t, o, a1, b1, b2, b3⟩
/-- what is read of the JDK: the statics, the class object of Object[], the empty row of a new list -/
def Xs (s : State) : Prop := (∀ q ∈ kSt, va_Z q.1 q.2.1 q.2.2.1 (toV b z q.2.2.2) (Az z) s s.heap) ∧ va_Mi "[Ljava/lang/Object;" (b.2 1) s ∧ va_T (.object "java/lang/Object") (b.2 0) 0 (fun _ => .null) (Az z) s s.heap ∧ b.2 0 < z ∧ (∀ q ∈ kFn, va_Nw (.fieldLinkNest q.1 q.2.1 q.2.2.1 q.2.2.2.1 q.2.2.2.2.1 q.2.2.2.2.2) s) ∧ (∀ q ∈ kFw, va_Fw q.1 q.2.1 q.2.2 s) ∧ (∀ w ∈ kSel, va_Nw w s)
theorem kSel_ok : ∀ w ∈ kSel, goodWord w = true := by decide
theorem kFw_ok : ∀ q ∈ kFw, q.2.1.cls ≠ "java/lang/invoke/MethodHandle" ∧ q.2.1.cls ≠ "java/lang/invoke/VarHandle" := by decide
/-- what a state gives from the claim's start on -/
def Env0 (s : State) : Prop := va_K D kN (tyL AC) s ∧ vx_Zq Bundle.tN "UNASSIGNED_STACK" Bundle.steD (Az z) s s.heap ∧ vx_Zq Bundle.tN "SUPPRESSED_SENTINEL" Bundle.listD (Az z) s s.heap ∧
  (∀ q ∈ kNest, va_Nw (.methodLinkNest q.1 q.2.1 q.2.2.1 q.2.2.2) s) ∧ (∀ q ∈ kCast, va_Nw (.castable q.1 q.2) s) ∧ (∀ q ∈ kDecl, va_Nw (.declares q) s) ∧ (∀ q ∈ kStr, ∃ sa, vk_R q.1 q.2.1 q.2.2 sa s) ∧ (∀ q ∈ kNc, va_Nc q.1 q.2 s) ∧
  (∀ ty ∈ kAO, arO ty s) ∧ va_X b.1 L xs s s.heap ∧ b.1 < z ∧ Xs b z s
theorem Env0.warm {s U : State} (hW : s.WarmedH U.vm) (hz : z ≤ s.heap.size) (hk : ∀ q : Nat, q < s.heap.size → ¬ Az z q → U.heap[q]? = s.heap[q]?) (h : Env0 D AC b z L xs s) : Env0 D AC b z L xs U := by
  obtain ⟨h1, h2, h3, h4, h5, h6, h7, h8, h9, h10, h11, x1, x2, x3, x4, x5, x6, x7⟩ := h
  have hx : Xs b z U := ⟨fun q hq => va_Z.moved hW.alike ((x1 q hq).kept hk), va_Mi.moved hW.alike x2, va_T.moved hW.alike (x3.kept hk), x4, fun q hq => va_Nw.warmF hW (x5 q hq), fun q hq => va_Fw.moved (kFw_ok q hq) hW.alike (x6 q hq), fun w hw => word_at hW (good_of_word (kSel_ok w hw)) (x7 w hw)⟩
  exact ⟨va_K.moved hW.alike h1, vx_Zq.moved hW.alike (h2.kept hk), vx_Zq.moved hW.alike (h3.kept hk), fun q hq => va_Nw.warmM hW (h4 q hq), fun q hq => va_Nw.warmC hW (h5 q hq), fun q hq => va_Nw.warmD hW (h6 q hq), fun q hq => by
    obtain ⟨sa, hsa⟩ := h7 q hq
    exact ⟨sa, vk_R.warm hW hsa⟩, fun q hq => va_Nc.moved hW.alike (h8 q hq), fun ty hq => arO.moved hW.alike (h9 ty hq), va_X.moved hW.alike (h10.kept (hk b.1 (Nat.lt_of_lt_of_le h11 hz) (fun q => Nat.not_le.mpr h11 q))), h11, hx⟩
theorem Env0.tl {D : va_G} {AC : Nat → ClassId} {b : Nat × (Nat → Nat)} {z L : Nat} {xs : Nat → Int32} {s : State} (h : Env0 D AC b z L xs s) : Xs b z s := h.2.2.2.2.2.2.2.2.2.2.2
/-- a method that stands at work -/
def Ctx (j : Nat) (p : Program) (R : Room) (s : State) (m : MethodId) (args : Array Value) (meth : Method) (c : Code) : Prop :=
  p.tables.exec = Jvm.exec ∧ c.code = mC j ∧ meth.sig.returnType = mR j ∧ c.maxLocals = mL j ∧ s.vm.findClass (mO j) = some m.cls ∧ (∀ w ∈ TBg, w.before args s = true) ∧ meth.locks = false ∧ meth.name = (mY j).name ∧
  c.exceptionTable.toList = tableOf (mH j) ∧ Env0 D AC b z L xs s ∧ z ≤ s.heap.size ∧ mF j ≤ R.frames ∧ mW j ≤ R.locals ∧ z + cM ≤ s.heap.size + R.cells ∧ sM ≤ Sz z s.heap + R.slots ∧ l.stackTraces = false
/-- the heap h within its bounds, the script in it -/
def Bd (h : Hp) : Prop := nx h ≤ cM + 1 ∧ sc h ≤ sM ∧ 1 ≤ nx h ∧ (∀ j, j < L → gI h 0 j = xs j) ∧ ln h 0 = L ∧ kd h 0 = 100
def Bg (s : State) (h : Hp) (cells slots : Nat) : Prop := s.heap.size + cells + 1 ≤ z + nx h ∧ Sz z s.heap + slots ≤ sc h ∧ Bd L xs h
def HB (H : Heap) (h : Hp) : Prop := H.size + 1 ≤ z + nx h ∧ Sz z H ≤ sc h ∧ Bd L xs h
/-- a return instruction that fits the answer -/
def RetOK (j pc : Nat) : Option MV → Prop
  | none => mR j = none ∧ decode (mC j) pc = .ok (.return_, 1)
  | some (.inl v) => (∃ ty, mR j = some ty ∧ narrow ty (.int v) = .int v) ∧ decode (mC j) pc = .ok (.ireturn, 1)
  | some (.inr (.inl _)) => (∃ rt, mR j = some rt ∧ ((∃ n, rt = .object n) ∨ ∃ t, rt = .array t)) ∧ decode (mC j) pc = .ok (.areturn, 1)
  | some (.inr (.inr (.inl _))) => mR j = some .long ∧ decode (mC j) pc = .ok (.lreturn, 1)
  | some (.inr (.inr (.inr _))) => mR j = some .double ∧ decode (mC j) pc = .ok (.dreturn, 1)
def Ends (j : Nat) (p : Program) (e : Env) (R : Room) (s : State) (m : MethodId) (args : Array Value) (below : List Frame) (meth : Method) (c : Code) (QQ : State → Prop) (Q : MRes → Hp → Prop) : Prop :=
  (∀ (v : Option MV) (h : Hp) (H : Heap) (locs : List Loc) (lsR : Array Slot) (cells slots pc : Nat), Q (.inl v) h → va_P D kN (wl AC b z h) H → va_S (Az z) s.heap H locs → Bg z L xs s h cells slots → RetOK j pc v →
    W p l e R s m args below meth c H locs cells slots QQ (F0 m pc lsR (v.toList.map (toV b z)))) ∧
  (∀ (E : Nat) (nm : String) (h : Hp) (H : Heap) (locs : List Loc) (lsR : Array Slot) (cells slots pc : Nat) (rest : List Value) (q : Addr) (ce : Cell), Q (.inr E) h → kEx[E]? = some nm → va_P D kN (wl AC b z h) H → va_S (Az z) s.heap H locs → Bg z L xs s h cells slots →
    H[q]? = some ce → ce.vm = .none → s.vm.findClass nm = some ce.cls → (∀ x ∈ tableOf (mH j), covers x pc = false) → vx_W p l e R s m args below meth c H locs cells slots QQ (F0 m pc lsR rest) q)
/-- what M's judgement means of the machine -/
def RX : Jd := fun j pc ls st h Q => ∀ (p : Program) (e : Env) (R : Room) (s : State) (m : MethodId) (args : Array Value) (below : List Frame) (meth : Method) (c : Code) (QQ : State → Prop), Ctx l D AC b z L xs j p R s m args meth c → Ends l D AC b z L xs j p e R s m args below meth c QQ Q →
  ∀ (H : Heap) (locs : List Loc) (lsR : Array Slot) (cells slots : Nat), va_P D kN (wl AC b z h) H → va_S (Az z) s.heap H locs → Bg z L xs s h cells slots → LR b z ls lsR (mL j) →
  W p l e R s m args below meth c H locs cells slots QQ (F0 m pc lsR (st.map (toV b z)))
theorem RX_mono : MonX (RX l D AC b z L xs) := by
  intro j pc ls st h Q Q' hQ hX p e R s m args below meth c QQ C E
  exact hX p e R s m args below meth c QQ C ⟨fun v h2 H locs lsR cells slots pc q => E.1 v h2 H locs lsR cells slots pc (hQ _ _ q), fun Ec nm h2 H locs lsR cells slots pc rest q9 ce q => E.2 Ec nm h2 H locs lsR cells slots pc rest q9 ce (hQ _ _ q)⟩
def Snd (G : Pg) (j pc : Nat) (hd : Hd) : Prop := ∀ (ls : Lo) (st : Sk) (h : Hp) (Q : MRes → Hp → Prop), ndX G (RX l D AC b z L xs) j pc (hd ls st h) Q → RX l D AC b z L xs j pc ls st h Q
/-- a callee's end, told to the caller -/
def QcM (Q : MRes → Hp → Prop) : Array Value → State → Outcome → State → Prop := fun _ st o t => ∃ (v : Option MV) (h2 : Hp), o = .returned (v.map (toV b z)) ∧ Q (.inl v) h2 ∧ va_P D kN (wl AC b z h2) t.heap ∧ va_F (Az z) st t ∧ HB z L xs t.heap h2
def XcM (Q : MRes → Hp → Prop) : String → State → State → Prop := fun nm st t => ∃ (E : Nat) (h2 : Hp), kEx[E]? = some nm ∧ Q (.inr E) h2 ∧ va_P D kN (wl AC b z h2) t.heap ∧ va_F (Az z) st t ∧ HB z L xs t.heap h2
/-- the word of a method's code, and its words -/
def mCw (j : Nat) : Cond := match mH j with
  | [] => .code (mY j) (mC j) (mL j) (mR j)
  | _ => .codeWith (mY j) (mC j) (mL j) (mR j) (mH j)
def mWs (j : Nat) : List Cond := mCw j :: TBg
def mRm (j : Nat) (H : Heap) : Room := { frames := mF j, cells := z + cM - H.size, slots := sM - Sz z H, locals := mW j }
def PcM (as : List MV) (H : Heap) : Array Value → State → Prop := va_Pc (as.map (toV b z)) (fun U => U.heap = H ∧ Env0 D AC b z L xs U)
theorem PcM_blind {as : List MV} {H : Heap} (hz : z ≤ H.size) : FrameBlind (PcM D AC b z L xs as H) := by
  intro a U g mk ⟨h1, h2, h3⟩
  refine ⟨h1, h2, ?_⟩
  exact Env0.warm D AC b z L xs (s := U) (U := U.calling g mk a) (State.WarmedH.refl U) (by rw [h2]; exact hz) (fun _ _ _ => rfl) h3
theorem ends_met {j : Nat} {p : Program} {e : Env} {R : Room} {s : State} {m : MethodId} {args : Array Value} {below : List Frame} {meth : Method} {c : Code} {Q : MRes → Hp → Prop} (C : Ctx l D AC b z L xs j p R s m args meth c) {mc ms : Nat} (hmc : mc = z + cM - s.heap.size) (hms : ms = sM - Sz z s.heap) :
    Ends l D AC b z L xs j p e R s m args below meth c (vx_MQ below (QcM D AC b z L xs Q) (XcM D AC b z L xs Q) args s mc ms (Az z)) Q := by
  obtain ⟨hx, hb, hr, hml, hown, hts, hlocks, hnm, htab, hE, hz, -⟩ := C
  refine ⟨fun v h H locs lsR cells slots pc hq hP hS hB hret => ?_, fun E nm h H locs lsR cells slots pc rest q ce hq hnm hP hS hB hce hcv hcl hout => ?_⟩
  · refine w_facts hz fun f1 f2 f3 => ?_
    obtain ⟨b1, b2, b3⟩ := hB
    obtain ⟨b4, b5, b6⟩ := id b3
    have hc : cells ≤ mc := by omega
    have hs : slots ≤ ms := by omega
    have hb9 : HB z L xs H h := ⟨by omega, by omega, b3⟩
    have hf : ∀ q ∈ locs, Az z q.base := hS.2.2
    refine vx_ret (W.widen hc hs ?_)
    have hq9 : ∀ (o : Option Value), o = v.map (toV b z) → ∀ t : State, t.heap = H → s.WarmedH t.vm → QcM D AC b z L xs Q args s (.returned o) t := fun o ho t ht hW => ⟨v, h, by rw [ho], hq, by rw [ht]; exact hP, hS.F ht, by rw [ht]; exact hb9⟩
    rcases v with _ | (v | (r | (v | v)))
    · exact W.vret hx hb (hr.trans hret.1) (hq9 _ rfl) hf hret.2 hlocks
    · obtain ⟨⟨ty, h1, h2⟩, h3⟩ := hret
      exact W.zret hx hb (hr.trans h1) h2 (hq9 _ rfl) hf h3 hlocks
    · obtain ⟨⟨rt, h1, h2⟩, h3⟩ := hret
      refine W.aret (v := toV b z (.inr (.inl r))) hx hb (hr.trans h1) h2 ?_ (hq9 _ rfl) hf h3 hlocks
      cases r with
      | none => exact Or.inl rfl
      | some a => exact Or.inr ⟨_, rfl⟩
    · exact W.lret hx hb (hr.trans hret.1) (hq9 _ rfl) hf hret.2 hlocks
    · exact W.dret hx hb (hr.trans hret.1) (hq9 _ rfl) hf hret.2 hlocks
  · refine x_facts hz fun f1 f2 f3 => ?_
    obtain ⟨b1, b2, b3⟩ := hB
    obtain ⟨b4, b5, b6⟩ := id b3
    exact vx_out (E := nm) (by rw [htab]; exact hout) hlocks hce hcv hcl (fun t ht hW => ⟨E, h, hnm, hq, by rw [ht]; exact hP, hS.F ht, by rw [ht]; exact ⟨by omega, by omega, b3⟩⟩) hS.2.2 (by omega) (by omega)
theorem cat_len (as : List MV) : (lg_sl (as.map (toV b z))).length = catS as := by
  induction as with
  | nil => rfl
  | cons v vs ih =>
    have e : lg_sl ((v :: vs).map (toV b z)) = (if (toV b z v).category = 2 then [Slot.val (toV b z v), Slot.second] else [Slot.val (toV b z v)]) ++ lg_sl (vs.map (toV b z)) := rfl
    rw [e, List.length_append, ih, cat_toV]
    show _ = catV v + catS vs
    unfold catV
    cases isWide v <;> rfl
theorem eArgs_at : ∀ (as : List MV) (pre k : Nat) (v : MV), (eArgs as)[k]? = some (some v) → (pre + k, toV b z v) ∈ lv_args pre (as.map (toV b z))
  | [], pre, k, v, h => by simp [eArgs] at h
  | a :: as, pre, k, v, h => by
    have hl : lv_args pre ((a :: as).map (toV b z)) = (pre, toV b z a) :: lv_args (if (toV b z a).category = 2 then pre + 2 else pre + 1) (as.map (toV b z)) := rfl
    rw [hl]
    have one : isWide a = false → eArgs (a :: as) = some a :: eArgs as := by
      intro hw
      rcases a with x | r | x
      · rfl
      · rfl
      · cases hw
    have two : isWide a = true → eArgs (a :: as) = some a :: none :: eArgs as := by
      intro hw
      rcases a with x | r | x
      · cases hw
      · cases hw
      · rfl
    cases hw : isWide a with
    | false =>
      rw [one hw] at h
      have hc : ¬ (toV b z a).category = 2 := by rw [cat_toV]; unfold catV; rw [hw]; decide
      rw [if_neg hc]
      cases k with
      | zero =>
        rw [List.getElem?_cons_zero] at h
        cases Option.some.inj (Option.some.inj h)
        exact List.mem_cons_self
      | succ k =>
        rw [List.getElem?_cons_succ] at h
        have := eArgs_at as (pre + 1) k v h
        rw [show pre + (k + 1) = pre + 1 + k by omega]
        exact List.mem_cons_of_mem _ this
    | true =>
      rw [two hw] at h
      have hc : (toV b z a).category = 2 := by rw [cat_toV]; unfold catV; rw [hw]; rfl
      rw [if_pos hc]
      cases k with
      | zero =>
        rw [List.getElem?_cons_zero] at h
        cases Option.some.inj (Option.some.inj h)
        exact List.mem_cons_self
      | succ k =>
        rw [List.getElem?_cons_succ] at h
        cases k with
        | zero =>
          rw [List.getElem?_cons_zero] at h
          cases Option.some.inj h
        | succ k =>
          rw [List.getElem?_cons_succ] at h
          have := eArgs_at as (pre + 2) k v h
          rw [show pre + (k + 1 + 1) = pre + 2 + k by omega]
          exact List.mem_cons_of_mem _ this
theorem LR_entry {as : List MV} {n : Nat} (h : catS as ≤ n) : LR b z (entL as n) ((lg_sl (as.map (toV b z)) ++ List.replicate (n - (lg_sl (as.map (toV b z))).length) Slot.unset).toArray) n := by
  obtain ⟨h1, h2, h3⟩ := lv_entry (as.map (toV b z)) (n := n) (by rw [cat_len]; exact h)
  refine ⟨h1, h2, fun k v hk => ?_⟩
  unfold entL at hk
  by_cases hl : k < (eArgs as).length
  · rw [List.getElem?_append_left hl] at hk
    have := eArgs_at b z as 0 k v hk
    rw [Nat.zero_add] at this
    exact h3 _ this
  · rw [List.getElem?_append_right (by omega)] at hk
    have := List.eq_of_mem_replicate (List.mem_of_getElem? hk)
    cases this
/-- a method whose words stand: its code's word good and in the tables, its class a plain name -/
def MOK (j : Nat) : Prop := plainFor (mY j) = true ∧ mO j = (mY j).cls ∧ mCw j ∈ TBg
theorem met_of {j : Nat} (hj : MOK j) (hl : l.stackTraces = false) {as : List MV} (hcat : catS as ≤ mL j) {h : Hp} {Q : MRes → Hp → Prop} (hR : RX l D AC b z L xs j 0 (entL as (mL j)) [] h Q) {H : Heap} (hP : va_P D kN (wl AC b z h) H) (hB : HB z L xs H h) (hz : z ≤ H.size) :
    vx_Met l (mY j) (mWs j) (mRm z j H) (PcM D AC b z L xs as H) (QcM D AC b z L xs Q) (XcM D AC b z L xs Q) (z + cM - H.size) (sM - Sz z H) (Az z) := by
  have main : ∀ (p : Program) (e : Env) (s : State) (m : MethodId) (args : Array Value) (below : List Frame) (meth : Method) (c : Code) (s₁ : State), BodyLoose p l (mY j) (headSpec (mWs j) (mRm z j H)) (mC j) (mL j) (mR j) e s m args below meth c s₁ → c.maxLocals = mL j → c.exceptionTable.toList = tableOf (mH j) → PcM D AC b z L xs as H args s →
      W p l e (headSpec (mWs j) (mRm z j H)).room s m args below meth c s.heap [] 0 0 (vx_MQ below (QcM D AC b z L xs Q) (XcM D AC b z L xs Q) args s (z + cM - H.size) (sM - Sz z H) (Az z)) (entryFrame m args (mL j)) := by
    intro p e s m args below meth c s₁ B hml htab hPc
    obtain ⟨rfl, hH, hE⟩ := hPc
    obtain ⟨b1, b2, b3⟩ := id hB
    obtain ⟨b4, b5, b6⟩ := id b3
    have hts : ∀ w ∈ mWs j, w.before (as.map (toV b z)).toArray s = true := atoms_spec (ws := mWs j) B.pre
    have hown : s.vm.findClass (mY j).cls = some m.cls := findClass_of_methodNamed B.named
    have hCtx : Ctx l D AC b z L xs j p (headSpec (mWs j) (mRm z j H)).room s m (as.map (toV b z)).toArray meth c :=
      ⟨B.exec, B.bytes, B.returns, hml, by rw [hj.2.1]; exact hown, fun w hw => hts w (List.mem_cons_of_mem _ hw), B.notSynchronized, (name_of_methodNamed B.named B.method).1, htab, hE, by rw [hH]; exact hz, Nat.le_refl _, Nat.le_refl _, by
        show z + cM ≤ s.heap.size + (z + cM - H.size)
        rw [hH]; omega, by
        show sM ≤ Sz z s.heap + (sM - Sz z H)
        rw [hH]; omega, hl⟩
    rw [lg_entry_eq]
    refine hR p e _ s m _ below meth c _ hCtx (ends_met l D AC b z L xs hCtx (by rw [hH]) (by rw [hH])) s.heap [] _ 0 0 (by rw [hH]; exact hP) va_S.rf ⟨by rw [hH]; omega, by rw [hH]; omega, b3⟩ (LR_entry b z hcat)
  by_cases hh : mH j = []
  · have hcw : mCw j = Cond.code (mY j) (mC j) (mL j) (mR j) := by unfold mCw; rw [hh]
    refine ms_ofWF (cc := mC j) (maxL := mL j) (ret := mR j) hj.1 (show mWs j = _ :: TBg by unfold mWs; rw [hcw]) ?_
    intro p e s m args below meth c s₁ B hml ht hPc
    refine main p e s m args below meth c s₁ B hml ?_ hPc
    rw [hh]
    cases hl2 : c.exceptionTable.toList with
    | nil => rfl
    | cons x r => exact absurd (ht x (by rw [hl2]; exact List.mem_cons_self)) id
  · have hcw : mCw j = Cond.codeWith (mY j) (mC j) (mL j) (mR j) (mH j) := by
      unfold mCw
      cases hm : mH j with
      | nil => exact absurd hm hh
      | cons x r => rfl
    refine ms_ofWHF (cc := mC j) (maxL := mL j) (ret := mR j) (hh := mH j) hj.1 (show mWs j = _ :: TBg by unfold mWs; rw [hcw]) ?_
    intro p e s m args below meth c s₁ B hml hPc
    refine main p e s m args below meth c s₁ B hml ?_ hPc
    have hts : ∀ w ∈ mWs j, w.before args s = true := atoms_spec (ws := mWs j) B.pre
    exact vx_table (x := mY j) B (by rw [← hcw]; exact hts _ List.mem_cons_self)
end SOUND2
