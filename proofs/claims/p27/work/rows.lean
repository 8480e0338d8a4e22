section
-- ===== PART A: goes FIRST, ahead of the names: the tables' words, and 'selects' of the private methods out of them =====
/-- a private method of a class that the tables say can be made, by its rows of tables_1 -/
def lw_okq (q : MethodName × Nat) : Prop := (q.1.cls ≠ "java/lang/invoke/MethodHandle" ∧ q.1.cls ≠ "java/lang/invoke/VarHandle") ∧ Cond.instantiable q.1.cls q.2 ∈ tables_1 ∧ Cond.privateMethod q.1 ∈ tables_1 ∧ Cond.instanceMethod q.1 ∈ tables_1
theorem lw_p0 : lw_okq (⟨"java/lang/Throwable", "fillInStackTrace", "(I)Ljava/lang/Throwable;"⟩, 6) := ⟨⟨by decide +kernel, by decide +kernel⟩, List.mem_of_getElem? (i := 367) (by decide +kernel), List.mem_of_getElem? (i := 365) (by decide +kernel), List.mem_of_getElem? (i := 366) (by decide +kernel)⟩
theorem lw_p1 : lw_okq (⟨"Sharedair$Land", "findHearers", "()V"⟩, 3) := ⟨⟨by decide +kernel, by decide +kernel⟩, List.mem_of_getElem? (i := 27) (by decide +kernel), List.mem_of_getElem? (i := 421) (by decide +kernel), List.mem_of_getElem? (i := 422) (by decide +kernel)⟩
theorem lw_p2 : lw_okq (⟨"Sharedair$Routes", "renewPair", "(II)V"⟩, 6) := ⟨⟨by decide +kernel, by decide +kernel⟩, List.mem_of_getElem? (i := 201) (by decide +kernel), List.mem_of_getElem? (i := 438) (by decide +kernel), List.mem_of_getElem? (i := 439) (by decide +kernel)⟩
theorem lw_p3 : lw_okq (⟨"Sharedair$Routes", "cheapestNeighbour", "(II)I"⟩, 6) := ⟨⟨by decide +kernel, by decide +kernel⟩, List.mem_of_getElem? (i := 201) (by decide +kernel), List.mem_of_getElem? (i := 457) (by decide +kernel), List.mem_of_getElem? (i := 458) (by decide +kernel)⟩
theorem lw_p4 : lw_okq (⟨"Sharedair", "checkNode", "(I)V"⟩, 5) := ⟨⟨by decide +kernel, by decide +kernel⟩, List.mem_of_getElem? (i := 19) (by decide +kernel), List.mem_of_getElem? (i := 469) (by decide +kernel), List.mem_of_getElem? (i := 470) (by decide +kernel)⟩
theorem lw_p5 : lw_okq (⟨"Sharedair$Routes", "follow", "(II)I"⟩, 6) := ⟨⟨by decide +kernel, by decide +kernel⟩, List.mem_of_getElem? (i := 201) (by decide +kernel), List.mem_of_getElem? (i := 532) (by decide +kernel), List.mem_of_getElem? (i := 533) (by decide +kernel)⟩
theorem lw_p6 : lw_okq (⟨"Sharedair", "checkSilent", "(I)V"⟩, 5) := ⟨⟨by decide +kernel, by decide +kernel⟩, List.mem_of_getElem? (i := 19) (by decide +kernel), List.mem_of_getElem? (i := 571) (by decide +kernel), List.mem_of_getElem? (i := 572) (by decide +kernel)⟩
theorem lw_p7 : lw_okq (⟨"Sharedair$Market", "weigh", "(I)V"⟩, 9) := ⟨⟨by decide +kernel, by decide +kernel⟩, List.mem_of_getElem? (i := 262) (by decide +kernel), List.mem_of_getElem? (i := 597) (by decide +kernel), List.mem_of_getElem? (i := 598) (by decide +kernel)⟩
theorem lw_p8 : lw_okq (⟨"Sharedair$Market", "winningPrice", "(I)I"⟩, 9) := ⟨⟨by decide +kernel, by decide +kernel⟩, List.mem_of_getElem? (i := 262) (by decide +kernel), List.mem_of_getElem? (i := 614) (by decide +kernel), List.mem_of_getElem? (i := 615) (by decide +kernel)⟩
theorem lw_p9 : lw_okq (⟨"Sharedair$Market", "forgetBids", "()V"⟩, 9) := ⟨⟨by decide +kernel, by decide +kernel⟩, List.mem_of_getElem? (i := 262) (by decide +kernel), List.mem_of_getElem? (i := 618) (by decide +kernel), List.mem_of_getElem? (i := 619) (by decide +kernel)⟩
theorem lw_p10 : lw_okq (⟨"Sharedair$Traffic", "takeTurn", "(I)V"⟩, 7) := ⟨⟨by decide +kernel, by decide +kernel⟩, List.mem_of_getElem? (i := 229) (by decide +kernel), List.mem_of_getElem? (i := 638) (by decide +kernel), List.mem_of_getElem? (i := 639) (by decide +kernel)⟩
theorem lw_p11 : lw_okq (⟨"Sharedair$Traffic", "dropFirst", "(LSharedair$Node;)V"⟩, 7) := ⟨⟨by decide +kernel, by decide +kernel⟩, List.mem_of_getElem? (i := 229) (by decide +kernel), List.mem_of_getElem? (i := 647) (by decide +kernel), List.mem_of_getElem? (i := 648) (by decide +kernel)⟩
theorem lw_p12 : lw_okq (⟨"Sharedair$Traffic", "goOn", "(II)V"⟩, 7) := ⟨⟨by decide +kernel, by decide +kernel⟩, List.mem_of_getElem? (i := 229) (by decide +kernel), List.mem_of_getElem? (i := 663) (by decide +kernel), List.mem_of_getElem? (i := 664) (by decide +kernel)⟩
theorem lw_p13 : lw_okq (⟨"Sharedair$Traffic", "end", "(I)V"⟩, 7) := ⟨⟨by decide +kernel, by decide +kernel⟩, List.mem_of_getElem? (i := 229) (by decide +kernel), List.mem_of_getElem? (i := 672) (by decide +kernel), List.mem_of_getElem? (i := 673) (by decide +kernel)⟩
theorem lw_p14 : lw_okq (⟨"Sharedair$Traffic", "receive", "(ILSharedair$Frame;)V"⟩, 7) := ⟨⟨by decide +kernel, by decide +kernel⟩, List.mem_of_getElem? (i := 229) (by decide +kernel), List.mem_of_getElem? (i := 676) (by decide +kernel), List.mem_of_getElem? (i := 677) (by decide +kernel)⟩
theorem lw_p15 : lw_okq (⟨"Sharedair$Traffic", "arrive", "(LSharedair$Frame;)V"⟩, 7) := ⟨⟨by decide +kernel, by decide +kernel⟩, List.mem_of_getElem? (i := 229) (by decide +kernel), List.mem_of_getElem? (i := 680) (by decide +kernel), List.mem_of_getElem? (i := 681) (by decide +kernel)⟩
def lw_privs_1 : List (MethodName × Nat) := [(⟨"java/lang/Throwable", "fillInStackTrace", "(I)Ljava/lang/Throwable;"⟩, 6), (⟨"Sharedair$Land", "findHearers", "()V"⟩, 3), (⟨"Sharedair$Routes", "renewPair", "(II)V"⟩, 6), (⟨"Sharedair$Routes", "cheapestNeighbour", "(II)I"⟩, 6), (⟨"Sharedair", "checkNode", "(I)V"⟩, 5), (⟨"Sharedair$Routes", "follow", "(II)I"⟩, 6), (⟨"Sharedair", "checkSilent", "(I)V"⟩, 5), (⟨"Sharedair$Market", "weigh", "(I)V"⟩, 9), (⟨"Sharedair$Market", "winningPrice", "(I)I"⟩, 9), (⟨"Sharedair$Market", "forgetBids", "()V"⟩, 9), (⟨"Sharedair$Traffic", "takeTurn", "(I)V"⟩, 7), (⟨"Sharedair$Traffic", "dropFirst", "(LSharedair$Node;)V"⟩, 7), (⟨"Sharedair$Traffic", "goOn", "(II)V"⟩, 7), (⟨"Sharedair$Traffic", "end", "(I)V"⟩, 7), (⟨"Sharedair$Traffic", "receive", "(ILSharedair$Frame;)V"⟩, 7), (⟨"Sharedair$Traffic", "arrive", "(LSharedair$Frame;)V"⟩, 7)]
theorem lw_r1 : ∀ q ∈ lw_privs_1, lw_okq q := List.forall_mem_cons.mpr ⟨lw_p0, List.forall_mem_cons.mpr ⟨lw_p1, List.forall_mem_cons.mpr ⟨lw_p2, List.forall_mem_cons.mpr ⟨lw_p3, List.forall_mem_cons.mpr ⟨lw_p4, List.forall_mem_cons.mpr ⟨lw_p5, List.forall_mem_cons.mpr ⟨lw_p6, List.forall_mem_cons.mpr ⟨lw_p7, List.forall_mem_cons.mpr ⟨lw_p8, List.forall_mem_cons.mpr ⟨lw_p9, List.forall_mem_cons.mpr ⟨lw_p10, List.forall_mem_cons.mpr ⟨lw_p11, List.forall_mem_cons.mpr ⟨lw_p12, List.forall_mem_cons.mpr ⟨lw_p13, List.forall_mem_cons.mpr ⟨lw_p14, List.forall_mem_cons.mpr ⟨lw_p15, fun _ h => absurd h List.not_mem_nil⟩⟩⟩⟩⟩⟩⟩⟩⟩⟩⟩⟩⟩⟩⟩⟩
theorem lw_p16 : lw_okq (⟨"Sharedair$Traffic", "tryAgain", "(LSharedair$Node;)V"⟩, 7) := ⟨⟨by decide +kernel, by decide +kernel⟩, List.mem_of_getElem? (i := 229) (by decide +kernel), List.mem_of_getElem? (i := 697) (by decide +kernel), List.mem_of_getElem? (i := 698) (by decide +kernel)⟩
theorem lw_p17 : lw_okq (⟨"Sharedair$Traffic", "draw", "(I)I"⟩, 7) := ⟨⟨by decide +kernel, by decide +kernel⟩, List.mem_of_getElem? (i := 229) (by decide +kernel), List.mem_of_getElem? (i := 701) (by decide +kernel), List.mem_of_getElem? (i := 702) (by decide +kernel)⟩
theorem lw_p18 : lw_okq (⟨"Sharedair", "mixNode", "(JI)J"⟩, 5) := ⟨⟨by decide +kernel, by decide +kernel⟩, List.mem_of_getElem? (i := 19) (by decide +kernel), List.mem_of_getElem? (i := 722) (by decide +kernel), List.mem_of_getElem? (i := 723) (by decide +kernel)⟩
theorem lw_p19 : lw_okq (⟨"Sharedair", "checkPair", "(II)V"⟩, 5) := ⟨⟨by decide +kernel, by decide +kernel⟩, List.mem_of_getElem? (i := 19) (by decide +kernel), List.mem_of_getElem? (i := 737) (by decide +kernel), List.mem_of_getElem? (i := 738) (by decide +kernel)⟩
theorem lw_p20 : lw_okq (⟨"Sharedair$Land", "isCovering", "(I)Z"⟩, 3) := ⟨⟨by decide +kernel, by decide +kernel⟩, List.mem_of_getElem? (i := 27) (by decide +kernel), List.mem_of_getElem? (i := 777) (by decide +kernel), List.mem_of_getElem? (i := 778) (by decide +kernel)⟩
def lw_privs_2 : List (MethodName × Nat) := [(⟨"Sharedair$Traffic", "tryAgain", "(LSharedair$Node;)V"⟩, 7), (⟨"Sharedair$Traffic", "draw", "(I)I"⟩, 7), (⟨"Sharedair", "mixNode", "(JI)J"⟩, 5), (⟨"Sharedair", "checkPair", "(II)V"⟩, 5), (⟨"Sharedair$Land", "isCovering", "(I)Z"⟩, 3)]
theorem lw_r2 : ∀ q ∈ lw_privs_2, lw_okq q := List.forall_mem_cons.mpr ⟨lw_p16, List.forall_mem_cons.mpr ⟨lw_p17, List.forall_mem_cons.mpr ⟨lw_p18, List.forall_mem_cons.mpr ⟨lw_p19, List.forall_mem_cons.mpr ⟨lw_p20, fun _ h => absurd h List.not_mem_nil⟩⟩⟩⟩⟩
def lw_privs : List (MethodName × Nat) := lw_privs_1 ++ (lw_privs_2)
def lw_tbl : List Cond := k2_sels lw_privs ++ tables_1
theorem lw_privs_ok : ∀ q ∈ lw_privs, lw_okq q := by
  show ∀ q ∈ lw_privs_1 ++ (lw_privs_2), lw_okq q
  exact List.forall_mem_append.mpr ⟨lw_r1, lw_r2⟩
/-- the streams that the claim lets the run draw from -/
abbrev lw_cs : List Choice := [Jvm.Choice.named "NaN.bits"]
theorem lw_bits : nanBits ∈ lw_cs := by first | decide | exact List.mem_cons_self | simp [lw_cs, nanBits]
end
section
/-! ===== BEGIN words of one list among another's, by their places ===== -/
theorem goodIn_r {big : List Cond} (ws : List Cond) (ps : List Nat) (hp : ws = ps.filterMap (fun i => big[i]?)) (h : ws.all goodWord = true) : GoodIn big ws := by
  intro w hw
  have h1 := List.all_eq_true.mp h w hw
  rw [hp] at hw
  obtain ⟨i, -, hi⟩ := List.mem_filterMap.mp hw
  have hm : w ∈ big := by first | exact List.mem_of_getElem? hi | exact List.getElem?_mem hi
  exact ⟨hm, good_of_word h1⟩
theorem goodIn_app {big a b : List Cond} (ha : GoodIn big a) (hb : GoodIn big b) : GoodIn big (a ++ b) := fun w h => (List.mem_append.mp h).elim (ha w) (hb w)
theorem goodIn_ca {big a b : List Cond} {c : Cond} (ha : GoodIn big (c :: a)) (hb : GoodIn big b) : GoodIn big (c :: (a ++ b)) := fun w h => (List.mem_cons.mp h).elim (fun e => ha w (List.mem_cons.mpr (Or.inl e))) (fun h => (List.mem_append.mp h).elim (fun h => ha w (List.mem_cons.mpr (Or.inr h))) (hb w))
theorem goodIn_sub {big ws : List Cond} (hm : ∀ w ∈ ws, w ∈ big) (h : ws.all goodWord = true) : GoodIn big ws := fun w hw => ⟨hm w hw, good_of_word (List.all_eq_true.mp h w hw)⟩
/-! ===== END ===== -/
/-! ===== BEGIN exceptions that leave a method, and their catching by the caller (launches without stack traces) ===== -/
section VXA
/-! The laws vx_back, vx_callV, vx_callS, vx_callSW, vx_throw0, vx_throwS follow proofs of the library, with one case more: JvmDerived/Free/Laws.lean (Back.of_free), Shelf42/LK1.lean (callV, callS), Shelf/KitTraced.lean (throwNew0V, throwNewS). -/
/-- where a method has thrown q: the class by its name, the cell, what was written, the world -/
def vx_T (XC : String → State → State → Prop) (st : State) (q : Addr) (t : State) (mc ms : Nat) (free : Addr → Prop) : Prop :=
  ∃ (E : String) (ce : Cell) (L : List Loc), XC E st t ∧ t.heap[q]? = some ce ∧ ce.vm = .none ∧ st.vm.findClass E = some ce.cls ∧ st.WarmedH t.vm ∧ st.sameButNew ({ t with vm := st.vm } : State) L mc ms ∧ ∀ z ∈ L, free z.base
def vx_Q (Qc : Array Value → State → Outcome → State → Prop) (XC : String → State → State → Prop) (mc ms : Nat) (free : Addr → Prop) : Array Value → State → Outcome → State → Prop := fun a st o t =>
  (Qc a st o t ∧ ∃ L, FrameEnd st o t L mc ms ∧ ∀ q ∈ L, free q.base) ∨ ∃ q, o = .threw q ∧ vx_T XC st q t mc ms free
/-- a callee that returns or throws -/
def vx_Met (l : Launch) (y : MethodName) (ws : List Cond) (rm : Room) (Pc : Array Value → State → Prop) (Qc : Array Value → State → Outcome → State → Prop) (XC : String → State → State → Prop) (mc ms : Nat) (free : Addr → Prop) : Prop :=
  MetFree l y (headSpec ws rm) Pc (fun _ _ _ _ _ => True) (vx_Q Qc XC mc ms free)
def vx_Post (XC : String → State → State → Prop) (mc ms : Nat) (free : Addr → Prop) : Pt → Array Value → Addr → Pt → Prop := fun A a q B =>
  ∃ (g : JFrame) (mk : MethodId) (t : State) (L : List Loc) (E : String) (ce : Cell), B.U.heap = t.heap ∧ B.U.vm = t.vm ∧ XC E (A.U.calling g mk a) t ∧ t.heap[q]? = some ce ∧ ce.vm = .none ∧ A.U.vm.findClass E = some ce.cls ∧ B.locs = A.locs ++ L ∧ (∀ z ∈ L, free z.base) ∧ B.cells = A.cells + mc ∧ B.slots = A.slots + ms
def vx_Back (l : Launch) (R : Room) (p : Program) (e : Env) (below : List Frame) (s : State) (sargs : Array Value) (y : MethodName) (len W9 : Nat)
    (Pre : Pt → Array Value → Prop) (Post : Pt → Array Value → Option Value → Pt → Prop) (PostX : Pt → Array Value → Addr → Pt → Prop) : Prop :=
  ∀ (m : MethodId) (meth : Method) (c : Code) (A : Pt) (g : JFrame) (ig : Instr) (mk : MethodId) (a : Array Value),
    Stand p l e R s m sargs below meth c A.U A.locs A.cells A.slots → g.method = m → g.locals.size = c.maxLocals → decode c.code g.pc = .ok (ig, len) →
    2 * g.monitorRoom + (g.stack.map fun v => v.category).sum ≤ W9 → A.U.methodNamed? y = some mk → Pre A a →
    (∃ (v : Option Value) (B : Pt), Stand p l e R s m sargs below meth c B.U B.locs B.cells B.slots ∧ Post A a v B ∧
      Steps p.tables e below (doInvoke e (A.U.setTop g) [] mk a).1 (B.U.setTop { g with pc := g.pc + len, stack := v.toList ++ g.stack })) ∨
    (∃ (q : Addr) (B : Pt), Stand p l e R s m sargs below meth c B.U B.locs B.cells B.slots ∧ PostX A a q B ∧
      Steps p.tables e below (doInvoke e (A.U.setTop g) [] mk a).1 ((B.U.setTop g).pushFrame (.throwing q)))
section Payer
variable {l : Launch} {R : Room} {p : Program} {e : Env} {below : List Frame} {s : State} {sargs : Array Value} {y : MethodName} {len W9 : Nat}
theorem vx_back {ws : List Cond} {rm : Room} {Pc : Array Value → State → Prop} {Qc : Array Value → State → Outcome → State → Prop} {XC : String → State → State → Prop} {mc ms : Nat} {free : Addr → Prop} {bytes : ByteArray} {maxL : Nat} {ret : Option FieldType}
    (hM : vx_Met l y ws rm Pc Qc XC mc ms free) (hblind : FrameBlind Pc) (hrc : rm.cells = mc) (hrs : rm.slots = ms)
    (hframes : rm.frames + 1 ≤ R.frames) (hlocals : W9 + (maxL + 11) + rm.locals ≤ R.locals)
    (hws : ∀ w ∈ ws, ∀ a' U, s.WarmedH U.vm → w.before a' U = true) (hcode : Cond.code y bytes maxL ret ∈ ws) (hinit : ∀ a' U, s.WarmedH U.vm → (Cond.initialized y.cls).before a' U = true) :
    vx_Back l R p e below s sargs y len W9 (PreOf R mc ms Pc) (PostOf Qc mc ms free) (vx_Post XC mc ms free) := by
  intro m meth c A g ig mk a X hg hsize hdg hW hn hp
  have h1 : (headSpec ws rm).pre.before a A.U = true := atoms_intro fun w hw => hws w hw _ _ X.warmed
  have h2 : (Cond.code y bytes maxL ret).before a A.U = true := hws _ hcode _ _ X.warmed
  have h3 : (Cond.initialized y.cls).before a A.U = true := hinit _ _ X.warmed
  have h4 : A.cells + (headSpec ws rm).room.cells ≤ R.cells := by rw [show (headSpec ws rm).room.cells = mc from hrc]; exact hp.1
  have h5 : A.slots + (headSpec ws rm).room.slots ≤ R.slots := by rw [show (headSpec ws rm).room.slots = ms from hrs]; exact hp.2.1
  have hPc : Pc a (A.U.calling g mk a) := hblind _ _ _ _ hp.2.2
  obtain ⟨U, Ls, c0, s0⟩ := A
  dsimp only [Pt.U, Pt.locs, Pt.cells, Pt.slots] at h1 h2 h3 h4 h5 X hn hPc ⊢
  obtain ⟨methY, cY, hmY, hcY, -, hlY, -, -, -, -⟩ := Cond.code_spec hn h2
  obtain ⟨kY, hkY, -⟩ := className_of_methodNamed hn
  have hinitY : kY.init = .initialized := Cond.initialized_spec (findClass_of_methodNamed hn) hkY h3
  have h : At U g.method c below := by rw [hg]; exact X.here
  have hlocals9 : W9 + (maxL + 11) + (headSpec ws rm).room.locals ≤ R.locals := hlocals
  have happ : (headSpec ws rm).appliesLoose y e.platform (U.calling g mk a) = true :=
    Spec.appliesLoose_calling (g := g) h hdg hn hkY hinitY
      (X.room_calling (g := g) (R' := (headSpec ws rm).room) hsize hmY hcY hframes (by rw [hlY]; omega) h4 h5) h1
  obtain ⟨mid, hmid⟩ := h.above
  have hfr : (U.setTop g).frames = (.java g :: mid) ++ below := by rw [State.frames_setTop' g h.top, hmid]; rfl
  obtain ⟨o, s₂, hsteps, -, hend, hq⟩ := Steps.callFree hM p X.admits X.cas X.clock (acts := []) hfr happ hPc trivial
  have hq' : vx_Q Qc XC mc ms free a (U.calling g mk a) o s₂ := hq
  rw [State.frames_setTop' g h.top] at hend
  obtain ⟨g₀, hg0⟩ := Option.isSome_iff_exists.mp h.top
  obtain ⟨r, hr⟩ := State.topJava?_eq_some.mp hg0
  have hr' : (({ U with heap := s₂.heap, slotsUsed := s₂.slotsUsed } : State).setVm s₂.vm).frames = .java g₀ :: r := hr
  rcases hq' with ⟨hqc, L, hfe, hL⟩ | ⟨q, rfl, E, ce, L, hx, hce, hcv, hcl, hW₂, hsm, hL⟩
  · obtain ⟨⟨v, rfl⟩, hW₂, e2, q2, q3, q4, q5, q6⟩ := id hfe
    have e3 : s₂ = ({ (U.calling g mk a).setFrames s₂.frames with heap := s₂.heap, slotsUsed := s₂.slotsUsed } : State).setVm s₂.vm := by
      have : s₂ = ({ s₂ with vm := (U.calling g mk a).vm } : State).setVm s₂.vm := rfl
      rw [e2] at this
      exact this
    obtain ⟨c₂, i₂, len₂, hc₂, hd₂, hf₂⟩ := hend
    have hW' : U.WarmedH s₂.vm := hW₂
    have hcc : c₂ = c := by
      have h1 : s₂.code? g.method = U.code? g.method := by
        rw [State.code?_eq, State.code?_eq, hW'.alike.method?]
      exact Option.some.inj (hc₂.symm.trans (h1.trans h.code))
    subst hcc
    have hlen : len₂ = len := by rw [hdg] at hd₂; cases hd₂; rfl
    subst hlen
    have hs₂ : s₂ = (({ U with heap := s₂.heap, slotsUsed := s₂.slotsUsed } : State).setVm s₂.vm).setTop { g with pc := g.pc + len₂, stack := v.toList ++ g.stack } := by
      refine e3.trans ?_
      rw [hf₂, State.calling_eq h.top, State.setFrames_setFrames, State.setTop_of_frames _ hr', hr]
      rfl
    have hsame : U.sameButNew ({ U with heap := s₂.heap, slotsUsed := s₂.slotsUsed } : State) L mc ms := by
      refine ⟨?_, q2, q3, q4, q5, q6⟩
      obtain ⟨t, ht, -⟩ := State.frames_cons hr
      show ({ U with heap := s₂.heap, slotsUsed := s₂.slotsUsed } : State) = { U.setFrames U.frames with heap := s₂.heap, slotsUsed := s₂.slotsUsed }
      rw [State.setFrames_self ht]
    subst hg
    refine Or.inl ⟨v, ⟨(({ U with heap := s₂.heap, slotsUsed := s₂.slotsUsed } : State).setVm s₂.vm), Ls ++ L, c0 + mc, s0 + ms⟩,
      ⟨X.admits, X.cas, X.clock, X.frames, X.room, X.hears, X.method, X.code, (X.here.setHeapUsed s₂.heap s₂.slotsUsed).setVm hW'.alike, X.tail, State.WarmedH.trans X.warmed hW', X.limits, X.bytes, X.same.trans (hsame.setVm s.vm)⟩,
      ⟨g, mk, s₂, L, rfl, rfl, hqc, rfl, hL, rfl, rfl⟩, ?_⟩
    show Steps p.tables e below _ ((({ U with heap := s₂.heap, slotsUsed := s₂.slotsUsed } : State).setVm s₂.vm).setTop { g with pc := g.pc + len₂, stack := v.toList ++ g.stack })
    rw [← hs₂]
    exact hsteps
  · obtain ⟨e2, q2, q3, q4, q5, q6⟩ := id hsm
    have e3 : s₂ = ({ (U.calling g mk a).setFrames s₂.frames with heap := s₂.heap, slotsUsed := s₂.slotsUsed } : State).setVm s₂.vm := by
      have : s₂ = ({ s₂ with vm := (U.calling g mk a).vm } : State).setVm s₂.vm := rfl
      rw [e2] at this
      exact this
    have hf₂ : s₂.frames = .throwing q :: .java g :: U.frames.tail := hend
    have hW' : U.WarmedH s₂.vm := hW₂
    have hs₂ : s₂ = ((({ U with heap := s₂.heap, slotsUsed := s₂.slotsUsed } : State).setVm s₂.vm).setTop g).pushFrame (.throwing q) := by
      refine e3.trans ?_
      rw [hf₂, State.calling_eq h.top, State.setFrames_setFrames, State.pushFrame, State.frames_setTop _ hr', State.setTop_of_frames _ hr', State.setFrames_setFrames, hr]
      rfl
    have hsame : U.sameButNew ({ U with heap := s₂.heap, slotsUsed := s₂.slotsUsed } : State) L mc ms := by
      refine ⟨?_, q2, q3, q4, q5, q6⟩
      obtain ⟨t, ht, -⟩ := State.frames_cons hr
      show ({ U with heap := s₂.heap, slotsUsed := s₂.slotsUsed } : State) = { U.setFrames U.frames with heap := s₂.heap, slotsUsed := s₂.slotsUsed }
      rw [State.setFrames_self ht]
    subst hg
    refine Or.inr ⟨q, ⟨(({ U with heap := s₂.heap, slotsUsed := s₂.slotsUsed } : State).setVm s₂.vm), Ls ++ L, c0 + mc, s0 + ms⟩,
      ⟨X.admits, X.cas, X.clock, X.frames, X.room, X.hears, X.method, X.code, (X.here.setHeapUsed s₂.heap s₂.slotsUsed).setVm hW'.alike, X.tail, State.WarmedH.trans X.warmed hW', X.limits, X.bytes, X.same.trans (hsame.setVm s.vm)⟩,
      ⟨g, mk, s₂, L, E, ce, rfl, rfl, hx, hce, hcv, hcl, rfl, hL, rfl, rfl⟩, ?_⟩
    show Steps p.tables e below _ (((({ U with heap := s₂.heap, slotsUsed := s₂.slotsUsed } : State).setVm s₂.vm).setTop g).pushFrame (.throwing q))
    rw [← hs₂]
    exact hsteps
end Payer
section Calls
variable {p : Program} {l : Launch} {e : Env} {R : Room} {s : State} {m : MethodId} {args : Array Value} {below : List Frame} {meth : Method} {c : Code} {T : State} {locs : List Loc} {cells slots : Nat}
theorem vx_callV (X : Stand p l e R s m args below meth c T locs cells slots) (hexec : p.tables.exec = Jvm.exec) {own C : String} {index : Nat} {y : MethodName} {bytes : ByteArray} {maxL : Nat} {ret : Option FieldType}
    (hown : s.vm.findClass own = some m.cls) (hlink : (Cond.methodLink own index y).before args s = true) (hinst : (Cond.instanceMethod y).before args s = true) (hsel : (Cond.selects C y y).before args s = true)
    (hcode : (Cond.code y bytes maxL ret).before args s = true) (hy : y.cls ≠ "java/lang/invoke/MethodHandle" ∧ y.cls ≠ "java/lang/invoke/VarHandle")
    {W9 : Nat} {Pre : Pt → Array Value → Prop} {Post : Pt → Array Value → Option Value → Pt → Prop} {PostX : Pt → Array Value → Addr → Pt → Prop} (hK : vx_Back l R p e below s args y 3 W9 Pre Post PostX)
    {b : Addr} {cellB : Cell} (hcell : T.heap[b]? = some cellB) (hobj : cellB.vm.isStatics = false) (hcls : s.vm.findClass C = some cellB.cls)
    {g : JFrame} (hg : g.method = m) (hsize : g.locals.size = c.maxLocals) {argsL rest : List Value} (hlen : ∀ sig, parseMethodDescriptor y.desc = some sig → argsL.length = sig.parameters.length)
    (hstack : g.stack = argsL.reverse ++ .ref b :: rest) (hW : 2 * g.monitorRoom + (rest.map fun v => v.category).sum ≤ W9) (hdg : decode c.code g.pc = .ok (.invokevirtual index, 3))
    (hpre : ∀ vm₁, s.WarmedH vm₁ → Pre ⟨T.setVm vm₁, locs, cells, slots⟩ (Value.ref b :: argsL).toArray) :
    (∃ (v : Option Value) (vm₁ : Vm) (B : Pt), s.WarmedH vm₁ ∧ Stand p l e R s m args below meth c B.U B.locs B.cells B.slots ∧ Post ⟨T.setVm vm₁, locs, cells, slots⟩ (Value.ref b :: argsL).toArray v B ∧
      ∀ target, Steps p.tables e below (B.U.setTop { g with pc := g.pc + 3, stack := v.toList ++ rest }) target → Steps p.tables e below (T.setTop g) target) ∨
    (∃ (q : Addr) (vm₁ : Vm) (B : Pt), s.WarmedH vm₁ ∧ Stand p l e R s m args below meth c B.U B.locs B.cells B.slots ∧ PostX ⟨T.setVm vm₁, locs, cells, slots⟩ (Value.ref b :: argsL).toArray q B ∧
      Steps p.tables e below (T.setTop g) ((B.U.setTop { g with stack := rest }).pushFrame (.throwing q))) := by
  obtain ⟨mk, methM, hnamed, hmethM, hstM, habM⟩ := Cond.instanceMethod_spec hinst
  obtain ⟨methM', cM, hmethM', -, -, -, -, -, -, hsigM⟩ := Cond.code_spec hnamed hcode
  cases hmethM.symm.trans hmethM'
  obtain ⟨c2, r2, m2, q1, q2, q3, q4, kP, hkP, hkPi⟩ := Cond.selects_spec hsel
  cases hcls.symm.trans q1
  cases (State.methodFound?_of_named hnamed hy).symm.trans q2
  cases hnamed.symm.trans q3
  have hselP : selectMethod e.platform s.vm cellB.cls mk = .method mk := by rw [Launch.admits_selectMethod X.admits]; exact q4
  obtain ⟨vm₁, X₁, hstep₁⟩ := X.invokevirtual hexec hown hlink hnamed hmethM hstM hkP hkPi hy (a := b) (cell := cellB) hcell
    (fun z h => by rw [h] at hobj; cases hobj) hselP hmethM habM hkP hkPi (g := g) hg (argsL := argsL) (rest := rest) (hlen _ hsigM) hstack hdg
  rcases hK m meth c ⟨T.setVm vm₁, locs, cells, slots⟩ { g with stack := rest } (.invokevirtual index) mk (Value.ref b :: argsL).toArray X₁ hg hsize hdg hW (X₁.named hnamed) (hpre vm₁ X₁.warmed) with ⟨v, B, X', hpost, hsteps⟩ | ⟨q, B, X', hpost, hsteps⟩
  · exact Or.inl ⟨v, vm₁, B, X₁.warmed, X', hpost, fun target h => hstep₁ _ fun acts => by rw [doInvoke_state]; exact hsteps.trans h⟩
  · exact Or.inr ⟨q, vm₁, B, X₁.warmed, X', hpost, hstep₁ _ fun acts => by rw [doInvoke_state]; exact hsteps⟩
theorem vx_callS (X : Stand p l e R s m args below meth c T locs cells slots) (hexec : p.tables.exec = Jvm.exec) {own : String} {index : Nat} {y : MethodName} {bytes : ByteArray} {maxL : Nat} {ret : Option FieldType}
    (hown : s.vm.findClass own = some m.cls) (hlink : (Cond.methodLink own index y).before args s = true) (hstat : (Cond.static y).before args s = true) (hinit : (Cond.initialized y.cls).before args s = true)
    (hcode : (Cond.code y bytes maxL ret).before args s = true) (hy : y.cls ≠ "java/lang/invoke/MethodHandle" ∧ y.cls ≠ "java/lang/invoke/VarHandle")
    {W9 : Nat} {Pre : Pt → Array Value → Prop} {Post : Pt → Array Value → Option Value → Pt → Prop} {PostX : Pt → Array Value → Addr → Pt → Prop} (hK : vx_Back l R p e below s args y 3 W9 Pre Post PostX)
    {g : JFrame} (hg : g.method = m) (hsize : g.locals.size = c.maxLocals) {argsL rest : List Value} (hlen : ∀ sig, parseMethodDescriptor y.desc = some sig → argsL.length = sig.parameters.length)
    (hstack : g.stack = argsL.reverse ++ rest) (hW : 2 * g.monitorRoom + (rest.map fun v => v.category).sum ≤ W9) (hdg : decode c.code g.pc = .ok (.invokestatic index, 3))
    (hpre : ∀ vm₁, s.WarmedH vm₁ → Pre ⟨T.setVm vm₁, locs, cells, slots⟩ argsL.toArray) :
    (∃ (v : Option Value) (vm₁ : Vm) (B : Pt), s.WarmedH vm₁ ∧ Stand p l e R s m args below meth c B.U B.locs B.cells B.slots ∧ Post ⟨T.setVm vm₁, locs, cells, slots⟩ argsL.toArray v B ∧
      ∀ target, Steps p.tables e below (B.U.setTop { g with pc := g.pc + 3, stack := v.toList ++ rest }) target → Steps p.tables e below (T.setTop g) target) ∨
    (∃ (q : Addr) (vm₁ : Vm) (B : Pt), s.WarmedH vm₁ ∧ Stand p l e R s m args below meth c B.U B.locs B.cells B.slots ∧ PostX ⟨T.setVm vm₁, locs, cells, slots⟩ argsL.toArray q B ∧
      Steps p.tables e below (T.setTop g) ((B.U.setTop { g with stack := rest }).pushFrame (.throwing q))) := by
  obtain ⟨mk, hnamed⟩ := Cond.code_named hcode
  obtain ⟨methM, cM, hmethM, -, -, -, -, -, -, hsigM⟩ := Cond.code_spec hnamed hcode
  have hstatic : methM.isStatic = true := Cond.static_spec hnamed hmethM hstat
  obtain ⟨kP, hkP, -⟩ := className_of_methodNamed hnamed
  have hinitP : kP.init = .initialized := Cond.initialized_spec (findClass_of_methodNamed hnamed) hkP hinit
  obtain ⟨vm₁, X₁, hstep₁⟩ := X.invokestatic hexec hown hlink hnamed hmethM hstatic hkP hinitP hy (g := g) hg (argsL := argsL) (rest := rest) (hlen _ hsigM) hstack hdg
  rcases hK m meth c ⟨T.setVm vm₁, locs, cells, slots⟩ { g with stack := rest } (.invokestatic index) mk argsL.toArray X₁ hg hsize hdg hW (X₁.named hnamed) (hpre vm₁ X₁.warmed) with ⟨v, B, X', hpost, hsteps⟩ | ⟨q, B, X', hpost, hsteps⟩
  · exact Or.inl ⟨v, vm₁, B, X₁.warmed, X', hpost, fun target h => hstep₁ _ fun acts => by rw [doInvoke_state]; exact hsteps.trans h⟩
  · exact Or.inr ⟨q, vm₁, B, X₁.warmed, X', hpost, hstep₁ _ fun acts => by rw [doInvoke_state]; exact hsteps⟩
end Calls
theorem vx_cls {s : State} {T : State} {vm₁ : Vm} {E : String} {k : ClassId} (hW : s.WarmedH vm₁) (h : (T.setVm vm₁).vm.findClass E = some k) : s.vm.findClass E = some k := by
  have h1 : vm₁.findClass E = some k := h
  rw [hW.alike.findClass] at h1
  exact h1
/-- the method's frame g, with q thrown over it -/
def vx_W (p : Program) (l : Launch) (e : Env) (R : Room) (s : State) (m : MethodId) (args : Array Value) (below : List Frame) (meth : Method) (c : Code) (H : Heap) (locs : List Loc) (cells slots : Nat) (Q : State → Prop) (g : JFrame) (q : Addr) : Prop :=
  ∀ T : State, T.heap = H → Stand p l e R s m args below meth c T locs cells slots → ∃ t, Steps p.tables e below ((T.setTop g).pushFrame (.throwing q)) t ∧ Q t
def vx_Run (p : Program) (l : Launch) (e : Env) (R : Room) (s : State) (m : MethodId) (args : Array Value) (below : List Frame) (meth : Method) (c : Code) (H : Heap) (locs : List Loc) (cells slots mc ms : Nat) (g : JFrame) (rest : List Value) (Qa : State → Outcome → State → Prop) (XC : String → State → State → Prop) (free : Addr → Prop) : Prop :=
  ∀ T : State, T.heap = H → Stand p l e R s m args below meth c T locs cells slots →
    (∃ (v : Option Value) (st₀ t T' : State) (L : List Loc), st₀.heap = H ∧ Stand p l e R s m args below meth c T' (locs ++ L) (cells + mc) (slots + ms) ∧ (∀ q ∈ L, free q.base) ∧ T'.heap = t.heap ∧ T'.vm = t.vm ∧ Qa st₀ (.returned v) t ∧
      Goes p e below T g T' { g with pc := g.pc + 3, stack := v.toList ++ rest }) ∨
    (∃ (q : Addr) (st₀ t T' : State) (L : List Loc) (E : String) (ce : Cell), st₀.heap = H ∧ Stand p l e R s m args below meth c T' (locs ++ L) (cells + mc) (slots + ms) ∧ (∀ z ∈ L, free z.base) ∧ T'.heap = t.heap ∧ T'.vm = t.vm ∧ XC E st₀ t ∧ t.heap[q]? = some ce ∧ ce.vm = .none ∧ s.vm.findClass E = some ce.cls ∧
      Steps p.tables e below (T.setTop g) ((T'.setTop { g with stack := rest }).pushFrame (.throwing q)))
def vx_X {S : Type} (px : S → Prop) (B : String → S → State → Prop) (A : Nat → Prop) : String → State → State → Prop := fun E st t => ∃ u : S, px u ∧ B E u t ∧ va_F A st t
section Runs
variable {p : Program} {l : Launch} {e : Env} {R : Room} {s : State} {m : MethodId} {args : Array Value} {below : List Frame} {meth : Method} {c : Code} {H : Heap} {locs : List Loc} {cells slots : Nat}
variable {y : MethodName} {bytes cc : ByteArray} {maxL nL mc ms n index : Nat} {ret : Option FieldType} {ws : List Cond} {rm : Room} {Pc : Array Value → State → Prop} {Qc : Array Value → State → Outcome → State → Prop} {XC : String → State → State → Prop} {free : Addr → Prop} {Ts : List Cond} {own C : String} {b : Addr} {As rest : List Value} {g : JFrame}
theorem vx_callBack (cb : CallB R s args own index y bytes maxL ret ws rm mc ms n) (hM : vx_Met l y ws rm Pc Qc XC mc ms free) (hbl : FrameBlind Pc) : vx_Back l R p e below s args y 3 8 (PreOf R mc ms Pc) (PostOf Qc mc ms free) (vx_Post XC mc ms free) := by
  obtain ⟨hrc, hrs, hfr, hlo, hws, hcw, -, hini, -⟩ := cb
  exact vx_back (bytes := bytes) (maxL := maxL) (ret := ret) hM hbl hrc hrs hfr hlo hws hcw (fun a' U hW => word_at hW (Or.inl (by first | rfl | simp [Cond.onTables, Cond.keeps, Cond.steady])) hini)
theorem vx_runV (S : CallFix p m c cc nL s args Ts own) (hM : vx_Met l y ws rm Pc Qc XC mc ms free) (cw : CallW R s args own C index y bytes maxL ret ws rm mc ms n) (hp : PreV s H C b Pc As)
    (hg : g.method = m) (hn : As.length = n) (hsize : g.locals.size = nL) (hstack : g.stack = As.reverse ++ .ref b :: rest) (hW : 2 * g.monitorRoom + (rest.map fun v => v.category).sum ≤ 8) (hdg : decode cc g.pc = .ok (.invokevirtual index, 3)) (hf : cells + mc ≤ R.cells ∧ slots + ms ≤ R.slots) :
    vx_Run p l e R s m args below meth c H locs cells slots mc ms g rest (Qc (Value.ref b :: As).toArray) XC free := by
  have hK : vx_Back l R p e below s args y 3 8 (PreOf R mc ms Pc) (PostOf Qc mc ms free) (vx_Post XC mc ms free) := vx_callBack cw.1 hM hp.1
  obtain ⟨⟨-, -, -, -, -, -, hcode, -, hy, hlen, hl⟩, hin, hse⟩ := cw
  obtain ⟨hx, hb, hml, ho, -⟩ := S
  obtain ⟨-, ⟨cellB, hcB, hoB, hclB⟩, hPc⟩ := hp
  intro T hT X
  rcases vx_callV X hx (C := C) (bytes := bytes) (maxL := maxL) (ret := ret) ho hl hin hse hcode hy hK (by rw [hT]; exact hcB) hoB hclB hg (hsize.trans hml.symm) (argsL := As) (rest := rest) (fun sig h => hn.trans (hlen sig h)) hstack hW (by rw [hb]; exact hdg)
    (fun vm₁ hW₁ => ⟨hf.1, hf.2, hPc (T.setVm vm₁) hT hW₁⟩) with ⟨v, vm₁, ⟨U', l2, c2, s2⟩, hW₁, X', ⟨g', mk, t, L, e1, e2, hq, h1, hL, h2, h3⟩, st⟩ | ⟨q, vm₁, ⟨U', l2, c2, s2⟩, hW₁, X', ⟨g', mk, t, L, E, ce, e1, e2, hq, hce, hcv, hcl, h1, hL, h2, h3⟩, st⟩
  · dsimp only [Pt.U, Pt.locs, Pt.cells, Pt.slots] at X' e1 e2 h1 h2 h3 st
    subst h1; subst h2; subst h3
    exact Or.inl ⟨v, (T.setVm vm₁).calling g' mk (Value.ref b :: As).toArray, t, U', L, hT, X', hL, e1, e2, hq, st⟩
  · dsimp only [Pt.U, Pt.locs, Pt.cells, Pt.slots] at X' e1 e2 h1 h2 h3 st hcl
    subst h1; subst h2; subst h3
    exact Or.inr ⟨q, (T.setVm vm₁).calling g' mk (Value.ref b :: As).toArray, t, U', L, E, ce, hT, X', hL, e1, e2, hq, hce, hcv, vx_cls hW₁ hcl, st⟩
theorem vx_runS (S : CallFix p m c cc nL s args Ts own) (hM : vx_Met l y ws rm Pc Qc XC mc ms free) (cw : CallB R s args own index y bytes maxL ret ws rm mc ms n ∧ (Cond.static y).before args s = true) (hp : PreS s H Pc As)
    (hg : g.method = m) (hn : As.length = n) (hsize : g.locals.size = nL) (hstack : g.stack = As.reverse ++ rest) (hW : 2 * g.monitorRoom + (rest.map fun v => v.category).sum ≤ 8) (hdg : decode cc g.pc = .ok (.invokestatic index, 3)) (hf : cells + mc ≤ R.cells ∧ slots + ms ≤ R.slots) :
    vx_Run p l e R s m args below meth c H locs cells slots mc ms g rest (Qc As.toArray) XC free := by
  have hK : vx_Back l R p e below s args y 3 8 (PreOf R mc ms Pc) (PostOf Qc mc ms free) (vx_Post XC mc ms free) := vx_callBack cw.1 hM hp.1
  obtain ⟨⟨-, -, -, -, -, -, hcode, hini, hy, hlen, hl⟩, hstt⟩ := cw
  obtain ⟨hx, hb, hml, ho, -⟩ := S
  intro T hT X
  rcases vx_callS X hx (bytes := bytes) (maxL := maxL) (ret := ret) ho hl hstt hini hcode hy hK hg (hsize.trans hml.symm) (argsL := As) (rest := rest) (fun sig h => hn.trans (hlen sig h)) hstack hW (by rw [hb]; exact hdg)
    (fun vm₁ hW₁ => ⟨hf.1, hf.2, hp.2 (T.setVm vm₁) hT hW₁⟩) with ⟨v, vm₁, ⟨U', l2, c2, s2⟩, hW₁, X', ⟨g', mk, t, L, e1, e2, hq, h1, hL, h2, h3⟩, st⟩ | ⟨q, vm₁, ⟨U', l2, c2, s2⟩, hW₁, X', ⟨g', mk, t, L, E, ce, e1, e2, hq, hce, hcv, hcl, h1, hL, h2, h3⟩, st⟩
  · dsimp only [Pt.U, Pt.locs, Pt.cells, Pt.slots] at X' e1 e2 h1 h2 h3 st
    subst h1; subst h2; subst h3
    exact Or.inl ⟨v, (T.setVm vm₁).calling g' mk As.toArray, t, U', L, hT, X', hL, e1, e2, hq, st⟩
  · dsimp only [Pt.U, Pt.locs, Pt.cells, Pt.slots] at X' e1 e2 h1 h2 h3 st hcl
    subst h1; subst h2; subst h3
    exact Or.inr ⟨q, (T.setVm vm₁).calling g' mk As.toArray, t, U', L, E, ce, hT, X', hL, e1, e2, hq, hce, hcv, vx_cls hW₁ hcl, st⟩
end Runs
section Rows
variable {p : Program} {l : Launch} {e : Env} {R : Room} {s : State} {m : MethodId} {args : Array Value} {below : List Frame} {meth : Method} {c : Code} {H : Heap} {locs : List Loc} {cells slots : Nat} {Q : State → Prop}
variable {mc ms : Nat} {free : Addr → Prop} {A0 A1 : Nat → Prop} {H0 : Heap} {a : Array Value} {pc : Nat} {ls : Array Slot} {st0 rest : List Value}
theorem vx_keep {st₀ t T' : State} {L : List Loc} (h0 : st₀.heap = H) (e1 : T'.heap = t.heap) (hS : va_S A0 H0 H locs) (hA : ∀ q, q < H.size → A1 q → A0 q) (hf : ∀ q, free q → A0 q) (hL : ∀ q ∈ L, free q.base) (hF : va_F A1 st₀ t) :
    H.size ≤ T'.heap.size ∧ (∀ q : Nat, q < H.size → ¬ A1 q → T'.heap[q]? = H[q]?) ∧ va_S A0 H0 T'.heap (locs ++ L) := by
  obtain ⟨hz, hk⟩ := hF
  rw [h0] at hz hk
  exact ⟨by rw [e1]; exact hz, fun q h1 h2 => by rw [e1]; exact hk q h1 h2,
    ⟨Nat.le_trans hS.1 (by rw [e1]; exact hz), fun q h1 h2 => by rw [e1, hk q (Nat.lt_of_lt_of_le h1 hS.1) (fun z => h2 (hA q (Nat.lt_of_lt_of_le h1 hS.1) z))]; exact hS.2.1 q h1 h2, fun q hq => by
      rcases List.mem_append.mp hq with h | h
      · exact hS.2.2 q h
      · exact hf _ (hL q h)⟩⟩
theorem vx_calli {S SX : Type} {post : Int32 → S → Prop} {px : SX → Prop} {B : S → State → Prop} {BX : String → SX → State → Prop} {AX : Nat → Prop} (hr : vx_Run p l e R s m args below meth c H locs cells slots mc ms (F0 m pc ls st0) rest (va_Qi post B A1 a) (vx_X px BX AX) free) (hS : va_S A0 H0 H locs) (hA : ∀ q, q < H.size → A1 q → A0 q) (hf : ∀ q, free q → A0 q) (hAX : ∀ q, q < H.size → AX q → A0 q)
    (kx : ∀ (E : String) (ce : Cell) (q9 : Addr) (u : SX) (t : State) (H1 : Heap) (locs1 : List Loc), t.heap = H1 → s.vm.Alike t.vm → px u → BX E u t → H.size ≤ H1.size → (∀ q : Nat, q < H.size → ¬ AX q → H1[q]? = H[q]?) → va_S A0 H0 H1 locs1 → H1[q9]? = some ce → ce.vm = .none → s.vm.findClass E = some ce.cls → vx_W p l e R s m args below meth c H1 locs1 (cells + mc) (slots + ms) Q (F0 m pc ls rest) q9)
    (kk : ∀ (r : Int32) (u : S) (t : State) (H1 : Heap) (locs1 : List Loc), t.heap = H1 → s.vm.Alike t.vm → post r u → B u t → H.size ≤ H1.size → (∀ q : Nat, q < H.size → ¬ A1 q → H1[q]? = H[q]?) → va_S A0 H0 H1 locs1 → W p l e R s m args below meth c H1 locs1 (cells + mc) (slots + ms) Q (F0 m (pc + 3) ls (.int r :: rest))) : W p l e R s m args below meth c H locs cells slots Q (F0 m pc ls st0) := by
  intro T hT X
  rcases hr T hT X with ⟨v, st₀, t, T', L, h0, X', hL, e1, e2, ⟨⟨r, u, hv, hp, hb⟩, hF⟩, st⟩ | ⟨q, st₀, t, T', L, E, ce, h0, X', hL, e1, e2, ⟨u, hp, hb, hF⟩, hce, hcv, hcl, st⟩
  · cases hv
    obtain ⟨k1, k2, k3⟩ := vx_keep h0 e1 hS hA hf hL hF
    obtain ⟨t2, a1, b1⟩ := kk r u t T'.heap (locs ++ L) e1.symm (by rw [← e2]; exact X'.warmed.alike) hp hb k1 k2 k3 T' rfl X'
    exact ⟨t2, st t2 a1, b1⟩
  · obtain ⟨k1, k2, k3⟩ := vx_keep h0 e1 hS hAX hf hL hF
    obtain ⟨t2, a1, b1⟩ := kx E ce q u t T'.heap (locs ++ L) e1.symm (by rw [← e2]; exact X'.warmed.alike) hp hb k1 k2 k3 (by rw [e1]; exact hce) hcv hcl T' rfl X'
    exact ⟨t2, st.trans a1, b1⟩
theorem vx_calll {S SX : Type} {post : Int64 → S → Prop} {px : SX → Prop} {B : S → State → Prop} {BX : String → SX → State → Prop} {AX : Nat → Prop} (hr : vx_Run p l e R s m args below meth c H locs cells slots mc ms (F0 m pc ls st0) rest (va_Ql post B A1 a) (vx_X px BX AX) free) (hS : va_S A0 H0 H locs) (hA : ∀ q, q < H.size → A1 q → A0 q) (hf : ∀ q, free q → A0 q) (hAX : ∀ q, q < H.size → AX q → A0 q)
    (kx : ∀ (E : String) (ce : Cell) (q9 : Addr) (u : SX) (t : State) (H1 : Heap) (locs1 : List Loc), t.heap = H1 → s.vm.Alike t.vm → px u → BX E u t → H.size ≤ H1.size → (∀ q : Nat, q < H.size → ¬ AX q → H1[q]? = H[q]?) → va_S A0 H0 H1 locs1 → H1[q9]? = some ce → ce.vm = .none → s.vm.findClass E = some ce.cls → vx_W p l e R s m args below meth c H1 locs1 (cells + mc) (slots + ms) Q (F0 m pc ls rest) q9)
    (kk : ∀ (r : Int64) (u : S) (t : State) (H1 : Heap) (locs1 : List Loc), t.heap = H1 → s.vm.Alike t.vm → post r u → B u t → H.size ≤ H1.size → (∀ q : Nat, q < H.size → ¬ A1 q → H1[q]? = H[q]?) → va_S A0 H0 H1 locs1 → W p l e R s m args below meth c H1 locs1 (cells + mc) (slots + ms) Q (F0 m (pc + 3) ls (.long r :: rest))) : W p l e R s m args below meth c H locs cells slots Q (F0 m pc ls st0) := by
  intro T hT X
  rcases hr T hT X with ⟨v, st₀, t, T', L, h0, X', hL, e1, e2, ⟨⟨r, u, hv, hp, hb⟩, hF⟩, st⟩ | ⟨q, st₀, t, T', L, E, ce, h0, X', hL, e1, e2, ⟨u, hp, hb, hF⟩, hce, hcv, hcl, st⟩
  · cases hv
    obtain ⟨k1, k2, k3⟩ := vx_keep h0 e1 hS hA hf hL hF
    obtain ⟨t2, a1, b1⟩ := kk r u t T'.heap (locs ++ L) e1.symm (by rw [← e2]; exact X'.warmed.alike) hp hb k1 k2 k3 T' rfl X'
    exact ⟨t2, st t2 a1, b1⟩
  · obtain ⟨k1, k2, k3⟩ := vx_keep h0 e1 hS hAX hf hL hF
    obtain ⟨t2, a1, b1⟩ := kx E ce q u t T'.heap (locs ++ L) e1.symm (by rw [← e2]; exact X'.warmed.alike) hp hb k1 k2 k3 (by rw [e1]; exact hce) hcv hcl T' rfl X'
    exact ⟨t2, st.trans a1, b1⟩
theorem vx_callf {S SX : Type} {post : UInt32 → S → Prop} {px : SX → Prop} {B : S → State → Prop} {BX : String → SX → State → Prop} {AX : Nat → Prop} (hr : vx_Run p l e R s m args below meth c H locs cells slots mc ms (F0 m pc ls st0) rest (va_Qf post B A1 a) (vx_X px BX AX) free) (hS : va_S A0 H0 H locs) (hA : ∀ q, q < H.size → A1 q → A0 q) (hf : ∀ q, free q → A0 q) (hAX : ∀ q, q < H.size → AX q → A0 q)
    (kx : ∀ (E : String) (ce : Cell) (q9 : Addr) (u : SX) (t : State) (H1 : Heap) (locs1 : List Loc), t.heap = H1 → s.vm.Alike t.vm → px u → BX E u t → H.size ≤ H1.size → (∀ q : Nat, q < H.size → ¬ AX q → H1[q]? = H[q]?) → va_S A0 H0 H1 locs1 → H1[q9]? = some ce → ce.vm = .none → s.vm.findClass E = some ce.cls → vx_W p l e R s m args below meth c H1 locs1 (cells + mc) (slots + ms) Q (F0 m pc ls rest) q9)
    (kk : ∀ (r : UInt32) (u : S) (t : State) (H1 : Heap) (locs1 : List Loc), t.heap = H1 → s.vm.Alike t.vm → post r u → B u t → H.size ≤ H1.size → (∀ q : Nat, q < H.size → ¬ A1 q → H1[q]? = H[q]?) → va_S A0 H0 H1 locs1 → W p l e R s m args below meth c H1 locs1 (cells + mc) (slots + ms) Q (F0 m (pc + 3) ls (.float r :: rest))) : W p l e R s m args below meth c H locs cells slots Q (F0 m pc ls st0) := by
  intro T hT X
  rcases hr T hT X with ⟨v, st₀, t, T', L, h0, X', hL, e1, e2, ⟨⟨r, u, hv, hp, hb⟩, hF⟩, st⟩ | ⟨q, st₀, t, T', L, E, ce, h0, X', hL, e1, e2, ⟨u, hp, hb, hF⟩, hce, hcv, hcl, st⟩
  · cases hv
    obtain ⟨k1, k2, k3⟩ := vx_keep h0 e1 hS hA hf hL hF
    obtain ⟨t2, a1, b1⟩ := kk r u t T'.heap (locs ++ L) e1.symm (by rw [← e2]; exact X'.warmed.alike) hp hb k1 k2 k3 T' rfl X'
    exact ⟨t2, st t2 a1, b1⟩
  · obtain ⟨k1, k2, k3⟩ := vx_keep h0 e1 hS hAX hf hL hF
    obtain ⟨t2, a1, b1⟩ := kx E ce q u t T'.heap (locs ++ L) e1.symm (by rw [← e2]; exact X'.warmed.alike) hp hb k1 k2 k3 (by rw [e1]; exact hce) hcv hcl T' rfl X'
    exact ⟨t2, st.trans a1, b1⟩
theorem vx_calld {S SX : Type} {post : UInt64 → S → Prop} {px : SX → Prop} {B : S → State → Prop} {BX : String → SX → State → Prop} {AX : Nat → Prop} (hr : vx_Run p l e R s m args below meth c H locs cells slots mc ms (F0 m pc ls st0) rest (va_Qd post B A1 a) (vx_X px BX AX) free) (hS : va_S A0 H0 H locs) (hA : ∀ q, q < H.size → A1 q → A0 q) (hf : ∀ q, free q → A0 q) (hAX : ∀ q, q < H.size → AX q → A0 q)
    (kx : ∀ (E : String) (ce : Cell) (q9 : Addr) (u : SX) (t : State) (H1 : Heap) (locs1 : List Loc), t.heap = H1 → s.vm.Alike t.vm → px u → BX E u t → H.size ≤ H1.size → (∀ q : Nat, q < H.size → ¬ AX q → H1[q]? = H[q]?) → va_S A0 H0 H1 locs1 → H1[q9]? = some ce → ce.vm = .none → s.vm.findClass E = some ce.cls → vx_W p l e R s m args below meth c H1 locs1 (cells + mc) (slots + ms) Q (F0 m pc ls rest) q9)
    (kk : ∀ (r : UInt64) (u : S) (t : State) (H1 : Heap) (locs1 : List Loc), t.heap = H1 → s.vm.Alike t.vm → post r u → B u t → H.size ≤ H1.size → (∀ q : Nat, q < H.size → ¬ A1 q → H1[q]? = H[q]?) → va_S A0 H0 H1 locs1 → W p l e R s m args below meth c H1 locs1 (cells + mc) (slots + ms) Q (F0 m (pc + 3) ls (.double r :: rest))) : W p l e R s m args below meth c H locs cells slots Q (F0 m pc ls st0) := by
  intro T hT X
  rcases hr T hT X with ⟨v, st₀, t, T', L, h0, X', hL, e1, e2, ⟨⟨r, u, hv, hp, hb⟩, hF⟩, st⟩ | ⟨q, st₀, t, T', L, E, ce, h0, X', hL, e1, e2, ⟨u, hp, hb, hF⟩, hce, hcv, hcl, st⟩
  · cases hv
    obtain ⟨k1, k2, k3⟩ := vx_keep h0 e1 hS hA hf hL hF
    obtain ⟨t2, a1, b1⟩ := kk r u t T'.heap (locs ++ L) e1.symm (by rw [← e2]; exact X'.warmed.alike) hp hb k1 k2 k3 T' rfl X'
    exact ⟨t2, st t2 a1, b1⟩
  · obtain ⟨k1, k2, k3⟩ := vx_keep h0 e1 hS hAX hf hL hF
    obtain ⟨t2, a1, b1⟩ := kx E ce q u t T'.heap (locs ++ L) e1.symm (by rw [← e2]; exact X'.warmed.alike) hp hb k1 k2 k3 (by rw [e1]; exact hce) hcv hcl T' rfl X'
    exact ⟨t2, st.trans a1, b1⟩
theorem vx_callv {S SX : Type} {post : S → Prop} {px : SX → Prop} {B : S → State → Prop} {BX : String → SX → State → Prop} {AX : Nat → Prop} (hr : vx_Run p l e R s m args below meth c H locs cells slots mc ms (F0 m pc ls st0) rest (va_Qv post B A1 a) (vx_X px BX AX) free) (hS : va_S A0 H0 H locs) (hA : ∀ q, q < H.size → A1 q → A0 q) (hf : ∀ q, free q → A0 q) (hAX : ∀ q, q < H.size → AX q → A0 q)
    (kx : ∀ (E : String) (ce : Cell) (q9 : Addr) (u : SX) (t : State) (H1 : Heap) (locs1 : List Loc), t.heap = H1 → s.vm.Alike t.vm → px u → BX E u t → H.size ≤ H1.size → (∀ q : Nat, q < H.size → ¬ AX q → H1[q]? = H[q]?) → va_S A0 H0 H1 locs1 → H1[q9]? = some ce → ce.vm = .none → s.vm.findClass E = some ce.cls → vx_W p l e R s m args below meth c H1 locs1 (cells + mc) (slots + ms) Q (F0 m pc ls rest) q9)
    (kk : ∀ (u : S) (t : State) (H1 : Heap) (locs1 : List Loc), t.heap = H1 → s.vm.Alike t.vm → post u → B u t → H.size ≤ H1.size → (∀ q : Nat, q < H.size → ¬ A1 q → H1[q]? = H[q]?) → va_S A0 H0 H1 locs1 → W p l e R s m args below meth c H1 locs1 (cells + mc) (slots + ms) Q (F0 m (pc + 3) ls (rest))) : W p l e R s m args below meth c H locs cells slots Q (F0 m pc ls st0) := by
  intro T hT X
  rcases hr T hT X with ⟨v, st₀, t, T', L, h0, X', hL, e1, e2, ⟨⟨u, hv, hp, hb⟩, hF⟩, st⟩ | ⟨q, st₀, t, T', L, E, ce, h0, X', hL, e1, e2, ⟨u, hp, hb, hF⟩, hce, hcv, hcl, st⟩
  · cases hv
    obtain ⟨k1, k2, k3⟩ := vx_keep h0 e1 hS hA hf hL hF
    obtain ⟨t2, a1, b1⟩ := kk u t T'.heap (locs ++ L) e1.symm (by rw [← e2]; exact X'.warmed.alike) hp hb k1 k2 k3 T' rfl X'
    exact ⟨t2, st t2 a1, b1⟩
  · obtain ⟨k1, k2, k3⟩ := vx_keep h0 e1 hS hAX hf hL hF
    obtain ⟨t2, a1, b1⟩ := kx E ce q u t T'.heap (locs ++ L) e1.symm (by rw [← e2]; exact X'.warmed.alike) hp hb k1 k2 k3 (by rw [e1]; exact hce) hcv hcl T' rfl X'
    exact ⟨t2, st.trans a1, b1⟩
/-- caught by the row x of this method's table; the rows ahead don't take it -/
theorem vx_catch {own name : String} {E : String} {ce : Cell} {q : Addr} (hown : s.vm.findClass own = some m.cls) (pre : List ExceptionTableEntry) (x : ExceptionTableEntry) (suf : List ExceptionTableEntry) (hsplit : c.exceptionTable.toList = pre ++ x :: suf)
    (hpass : ∀ z ∈ pre, covers z pc = false ∨ (z.catchType ≠ 0 ∧ ∃ nm : String, (Cond.classLink own z.catchType nm).before args s = true ∧ va_Nc E nm s)) (hx : covers x pc = true) (h0 : x.catchType ≠ 0)
    (hlink : (Cond.classLink own x.catchType name).before args s = true) (hcast : (Cond.castable E name).before args s = true) (hcell : H[q]? = some ce) (hv : ce.vm = .none) (hcl : s.vm.findClass E = some ce.cls)
    (kk : W p l e R s m args below meth c H locs cells slots Q (F0 m x.handlerPc ls [.ref q])) : vx_W p l e R s m args below meth c H locs cells slots Q (F0 m pc ls rest) q := by
  intro T hT X
  have hpl : e.platform.magicAccessors = ({} : Platform).magicAccessors := by rw [X.admits.platform]
  obtain ⟨c3, c4, hc3, hc4, hasg⟩ := Cond.castable_spec hcast
  cases Option.some.inj (hc3.symm.trans hcl)
  obtain ⟨c5, hc5, hcl5⟩ := Cond.classLink_spec hown hlink e.platform hpl
  cases Option.some.inj (hc4.symm.trans hc5)
  obtain ⟨vm', X', st⟩ := X.thenCaughtThrough q (g := F0 m pc ls rest) rfl (Steps.refl _) (by rw [hT]; exact hcell) (by rw [hv]; rfl) (by obtain ⟨k9, h9, -⟩ := Vm.findClass_spec hcl; exact ⟨k9, h9⟩) pre x suf hsplit
    (fun z hz => by
      rcases hpass z hz with h | ⟨hz0, nm, hl1, hn1⟩
      · exact Or.inl h
      · obtain ⟨c6, hc6, hcl6⟩ := Cond.classLink_spec hown hl1 e.platform hpl
        obtain ⟨a8, b8, h1, h2, h3⟩ := hn1
        cases Option.some.inj (h1.symm.trans hcl)
        cases Option.some.inj (h2.symm.trans hc6)
        exact Or.inr ⟨hz0, _, hcl6, h3⟩) hx (Or.inr ⟨h0, c4, hcl5, hasg⟩)
  obtain ⟨t, a1, b1⟩ := kk (T.setVm vm') hT X'
  exact ⟨t, st.trans a1, b1⟩
end Rows
section Ends
variable {p : Program} {l : Launch} {e : Env} {R : Room} {s : State} {m : MethodId} {args : Array Value} {below : List Frame} {meth : Method} {c : Code} {H : Heap} {locs : List Loc} {cells slots : Nat} {Q : State → Prop}
variable {mc ms : Nat} {free : Addr → Prop} {A0 A1 : Nat → Prop} {H0 : Heap} {a : Array Value} {ls : Array Slot} {st0 rest : List Value}
variable {Qc : Array Value → State → Outcome → State → Prop} {XC : String → State → State → Prop}
/-- what a body that may throw owes at its end -/
def vx_MQ (below : List Frame) (Qc : Array Value → State → Outcome → State → Prop) (XC : String → State → State → Prop) (a : Array Value) (s : State) (mc ms : Nat) (free : Addr → Prop) : State → Prop := fun t =>
  ∃ o, t.status = .running ∧ Ended t below o ∧ vx_Q Qc XC mc ms free a s o t
theorem vx_ret {g : JFrame} {mc ms : Nat} (k : W p l e R s m args below meth c H locs cells slots (MQ below Qc args s mc ms free) g) : W p l e R s m args below meth c H locs cells slots (vx_MQ below Qc XC args s mc ms free) g := by
  intro T hT X
  obtain ⟨t, a1, o, b1, b2, b3, b4⟩ := k T hT X
  exact ⟨t, a1, o, b1, b2, Or.inl ⟨b3, b4⟩⟩
/-- not caught here: it goes on to the caller -/
theorem vx_widen {g : JFrame} {q : Addr} {k n : Nat} (h1 : cells ≤ k) (h2 : slots ≤ n) (kk : vx_W p l e R s m args below meth c H locs k n Q g q) : vx_W p l e R s m args below meth c H locs cells slots Q g q := fun T hT X => kk T hT (stand_widen X h1 h2)
theorem vx_out {pc : Nat} {E : String} {ce : Cell} {q : Addr} {mc ms : Nat} (hout : ∀ x ∈ c.exceptionTable.toList, covers x pc = false) (hlocks : meth.locks = false) (hcell : H[q]? = some ce) (hv : ce.vm = .none) (hcl : s.vm.findClass E = some ce.cls)
    (hx : ∀ t : State, t.heap = H → s.vm.Alike t.vm → XC E s t) (hf : ∀ z ∈ locs, free z.base) (hc : cells ≤ mc) (hs : slots ≤ ms) :
    vx_W p l e R s m args below meth c H locs cells slots (vx_MQ below Qc XC args s mc ms free) (F0 m pc ls rest) q := by
  intro T hT X
  obtain ⟨st1, hrun, hend, hW, hsm⟩ := X.leaveThrown q (g := F0 m pc ls rest) rfl rfl rfl hout hlocks
  have hcell9 : (T.setFrames (.throwing q :: below)).heap[q]? = some ce := by
    show T.heap[q]? = some ce
    rw [hT]; exact hcell
  exact ⟨_, st1, .threw q, hrun, hend, Or.inr ⟨q, rfl, E, ce, locs, hx _ hT hW.alike, hcell9, hv, hcl, hW, hsm.mono hc hs, hf⟩⟩
theorem vx_frame {U : State} {k n : Nat} (h : s.sameButNew ({ U with vm := s.vm } : State) locs k n) : s.heap.size ≤ U.heap.size ∧ ∀ q : Nat, q < s.heap.size → (∀ z ∈ locs, z.base ≠ q) → U.heap[q]? = s.heap[q]? := by
  obtain ⟨-, h2, -, -, -, h6⟩ := h
  refine ⟨h2, fun q hq hz => ?_⟩
  obtain ⟨c9, e1, e2, e3, e4⟩ := h6 q _ (Array.getElem?_eq_getElem hq)
  have hs : c9.slots = (s.heap[q]).slots := Array.ext_getElem? fun i => e4 i fun hm => hz _ hm rfl
  have h9 : c9 = s.heap[q] := by
    rw [hs] at e2
    exact e2
  have e5 : U.heap[q]? = some c9 := e1
  rw [e5, h9, Array.getElem?_eq_getElem hq]
/-- the words of a throw but the four that speak of the heap -/
def vx_no (w : Cond) : Bool := decide (w ≠ .isRef (.static Bundle.tN "UNASSIGNED_STACK" Bundle.steD)) && decide (w ≠ .isRef (.static Bundle.tN "SUPPRESSED_SENTINEL" Bundle.listD)) && decide (w ≠ .laysStatic Bundle.tN "UNASSIGNED_STACK" Bundle.steD) && decide (w ≠ .laysStatic Bundle.tN "SUPPRESSED_SENTINEL" Bundle.listD)
def vx_at0 (own : String) (ic : Nat) (X : String) (names : List String) : List Cond := (Bundle.ownAtoms0 own ic X names).filter vx_no
def vx_atS (own : String) (ic : Nat) (X : String) (names : List String) : List Cond := (Bundle.ownAtoms own ic X names).filter vx_no
/-- a word that the tables alone decide, or a good one -/
def vx_ot (w : Cond) : Bool := w.onTables || goodWord w
theorem vx_ot_at {args a' : Array Value} {s U : State} {w : Cond} (hW : s.WarmedH U.vm) (hvm : s.vm = U.vm) (hg : vx_ot w = true) (h : w.before args s = true) : w.before a' U = true := by
  simp only [vx_ot, Bool.or_eq_true] at hg
  rcases hg with hg | hg
  · exact va_tabs hg hvm h
  · exact word_at hW (good_of_word hg) h
/-- a list's words: the good ones out of the method's own list, the others by premises of their own -/
theorem vx_hat {args : Array Value} {s : State} {L B : List Cond} (h1 : ∀ w ∈ L.filter goodWord, w.before args s = true) (h2 : ∀ w ∈ L.filter (fun w => !goodWord w), w ∈ B) (h3 : ∀ w ∈ B, w.before args s = true) : ∀ w ∈ L, w.before args s = true := by
  intro w hw
  by_cases g : goodWord w = true
  · exact h1 w (List.mem_filter.mpr ⟨hw, g⟩)
  · refine h3 w (h2 w (List.mem_filter.mpr ⟨hw, ?_⟩))
    show (!goodWord w) = true
    cases hgw : goodWord w
    · rfl
    · exact absurd hgw g
theorem vx_c {args : Array Value} {s : State} {w : Cond} {B : List Cond} (h : w.before args s = true) (t : ∀ w ∈ B, w.before args s = true) : ∀ w' ∈ w :: B, w'.before args s = true := fun w' h' => (List.mem_cons.mp h').elim (fun e => by rw [e]; exact h) (t w')
theorem vx_n {args : Array Value} {s : State} : ∀ w ∈ ([] : List Cond), w.before args s = true := fun _ h => nomatch h
theorem vx_own {args : Array Value} {s : State} {L : List Cond} (h1 : ∀ w ∈ L.filter vx_no, w.before args s = true)
    (hU : (Cond.isRef (.static Bundle.tN "UNASSIGNED_STACK" Bundle.steD)).before args s = true) (hN : (Cond.isRef (.static Bundle.tN "SUPPRESSED_SENTINEL" Bundle.listD)).before args s = true)
    (lU : (Cond.laysStatic Bundle.tN "UNASSIGNED_STACK" Bundle.steD).before args s = true) (lN : (Cond.laysStatic Bundle.tN "SUPPRESSED_SENTINEL" Bundle.listD).before args s = true) : ∀ w ∈ L, w.before args s = true := by
  intro w hw
  by_cases e1 : w = .isRef (.static Bundle.tN "UNASSIGNED_STACK" Bundle.steD)
  · rw [e1]; exact hU
  · by_cases e2 : w = .isRef (.static Bundle.tN "SUPPRESSED_SENTINEL" Bundle.listD)
    · rw [e2]; exact hN
    · by_cases e3 : w = .laysStatic Bundle.tN "UNASSIGNED_STACK" Bundle.steD
      · rw [e3]; exact lU
      · by_cases e4 : w = .laysStatic Bundle.tN "SUPPRESSED_SENTINEL" Bundle.listD
        · rw [e4]; exact lN
        · exact h1 w (List.mem_filter.mpr ⟨hw, by unfold vx_no; rw [decide_eq_true e1, decide_eq_true e2, decide_eq_true e3, decide_eq_true e4]; rfl⟩)
/-- where a static field lies, its class's statics cell in H -/
def vx_L (C n d : String) (A : Nat → Prop) (U : State) (H : Heap) : Prop := ∃ (c : ClassId) (k : Class) (i : Nat) (f : Field) (a : Nat) (cell : Cell), U.vm.findClass C = some c ∧ U.fieldFound? C n d = some (c, k, i, f) ∧ f.isStatic = true ∧ k.statics = some a ∧ H[a]? = some cell ∧ cell.vm.isStatics = true ∧ cell.cls = c ∧ f.slot < cell.slots.size ∧ k.staticTypes[f.slot]? = some f.type ∧ ¬ A a
theorem vx_L.moved {C n d : String} {A : Nat → Prop} {u U : State} {H : Heap} (hvm : u.vm.Alike U.vm) (h : vx_L C n d A u H) : vx_L C n d A U H := by
  obtain ⟨c, k, i, f, a, cell, h1, h2, h3, h4, h5, h6, h7, h8, h9, h10⟩ := h
  obtain ⟨k', hi', he⟩ := State.fieldFound?_setVm hvm h2
  exact ⟨c, k', i, f, a, cell, by rw [hvm.findClass]; exact h1, hi', h3, by rw [he]; exact h4, h5, h6, h7, h8, by rw [he]; exact h9, h10⟩
theorem vx_L.kept {C n d : String} {A : Nat → Prop} {U : State} {H H1 : Heap} (h : vx_L C n d A U H) (hq : ∀ a : Nat, a < H.size → ¬ A a → H1[a]? = H[a]?) : vx_L C n d A U H1 := by
  obtain ⟨c, k, i, f, a, cell, h1, h2, h3, h4, h5, h6, h7, h8, h9, h10⟩ := h
  exact ⟨c, k, i, f, a, cell, h1, h2, h3, h4, by rw [hq a (Array.getElem?_eq_some_iff.mp h5).1 h10]; exact h5, h6, h7, h8, h9, h10⟩
theorem vx_L.narrow {C n d : String} {A B : Nat → Prop} {U : State} {H : Heap} (h : vx_L C n d A U H) (hAB : ∀ q, B q → A q) : vx_L C n d B U H := by
  obtain ⟨c, k, i, f, a, cell, h1, h2, h3, h4, h5, h6, h7, h8, h9, h10⟩ := h
  exact ⟨c, k, i, f, a, cell, h1, h2, h3, h4, h5, h6, h7, h8, h9, fun z => h10 (hAB _ z)⟩
theorem vx_L.word {C n d : String} {A : Nat → Prop} {s : State} {args : Array Value} (h : vx_L C n d A s s.heap) : (Cond.laysStatic C n d).before args s = true := by
  obtain ⟨c, k, i, f, a, cell, h1, h2, h3, h4, h5, h6, h7, h8, h9, -⟩ := h
  show (Cond.laysStatic C n d).holds args s none s [] = true
  exact Cond.laysStatic_of h1 h2 h3 h4 h5 h6 h7 h8 h9
/-- .. and what it holds: null or some reference -/
def vx_Zq (C n d : String) (A : Nat → Prop) (U : State) (H : Heap) : Prop := va_Zq C n d A U H ∧ vx_L C n d A U H
theorem vx_Zq.moved {C n d : String} {A : Nat → Prop} {u U : State} {H : Heap} (hvm : u.vm.Alike U.vm) (h : vx_Zq C n d A u H) : vx_Zq C n d A U H := ⟨va_Zq.moved hvm h.1, vx_L.moved hvm h.2⟩
theorem vx_Zq.kept {C n d : String} {A : Nat → Prop} {U : State} {H H1 : Heap} (h : vx_Zq C n d A U H) (hq : ∀ a : Nat, a < H.size → ¬ A a → H1[a]? = H[a]?) : vx_Zq C n d A U H1 := ⟨va_Zq.kept h.1 hq, vx_L.kept h.2 hq⟩
theorem vx_Zq.narrow {C n d : String} {A B : Nat → Prop} {U : State} {H : Heap} (h : vx_Zq C n d A U H) (hAB : ∀ q, B q → A q) : vx_Zq C n d B U H := ⟨va_Zq.narrow h.1 hAB, vx_L.narrow h.2 hAB⟩
theorem vx_Zqof {args : Array Value} {s : State} {C n d : String} {A : Nat → Prop} (hl : (Cond.laysStatic C n d).before args s = true) (hini : (Cond.initialized C).before args s = true) (h : (Cond.isRef (.static C n d)).before args s = true) (hA : ∀ a : Nat, a < s.heap.size → ¬ A a) : vx_Zq C n d A s s.heap := by
  refine ⟨va_Zqof hl hini h hA, ?_⟩
  obtain ⟨c, k, i, f, a, cell, h1, h2, h3, h4, h5, h6, h7, h8, h9⟩ := Cond.laysStatic_spec hl
  exact ⟨c, k, i, f, a, cell, h1, h2, h3, h4, h5, h6, h7, h8, h9, hA a (Array.getElem?_eq_some_iff.mp h5).1⟩
theorem vx_isRef {C n d : String} {v : Value} {A : Nat → Prop} {s : State} {args : Array Value} (h : va_Z C n d v A s s.heap) (hv : v.isRef = true) : (Cond.isRef (.static C n d)).before args s = true := by
  obtain ⟨cf, kf, fi, f, a, cell, h1, h2, h3, h4, h5, h6, h7, -⟩ := h
  have he : (Term.static C n d).eval args s none [] s = some v := by
    simp [Term.eval, State.fieldNamed?, h1, h2, h4, h5, h6, h7]
  simp only [Cond.before, Cond.holds, Cond.value, he]
  cases v <;> simp_all [Value.isRef]
theorem vx_isRefq {C n d : String} {A : Nat → Prop} {s : State} {args : Array Value} (h : va_Zq C n d A s s.heap) : (Cond.isRef (.static C n d)).before args s = true := by
  rcases h with h | ⟨t, h⟩
  · exact vx_isRef h rfl
  · exact vx_isRef h rfl
/-- the same frame, seen from here: as if the method were called anew in this heap -/
theorem vx_rebase {T : State} (X : Stand p l e R s m args below meth c T locs cells slots) {R' : Room} (hf : R'.frames ≤ R.frames) (hl : R'.locals ≤ R.locals) (hc : cells + R'.cells ≤ R.cells) (hs : slots + R'.slots ≤ R.slots) :
    Stand p l e R' ((T.setVm s.vm).setFrames (.invoking m args :: below)) m args below meth c T [] 0 0 := by
  have htop : (T.setVm s.vm).topJava?.isSome := X.here.top
  have hF : ((T.setVm s.vm).setFrames (.invoking m args :: below)).frames = .invoking m args :: below := State.frames_setFrames _ (State.cur_lt_of_top htop)
  obtain ⟨g₀, hg0⟩ := Option.isSome_iff_exists.mp htop
  obtain ⟨r, hr⟩ := State.topJava?_eq_some.mp hg0
  have hl9 : e.platform.stackLimits (T.setVm s.vm).me = e.platform.stackLimits s.me := X.limits
  have hb9 : (T.setVm s.vm).me.stackBytes = s.me.stackBytes := X.bytes
  refine ⟨X.admits, X.cas, X.clock, hF, ?_, X.hears, X.method, X.code, X.here, X.tail, X.warmed, ?_, ?_, ?_⟩
  · have h := X.room
    have hU : ((T.setVm s.vm).setFrames (.invoking m args :: below)).localsInUse = s.localsInUse := by
      rw [State.localsInUse_invoking hF (meth := meth) (c := c) X.method X.code, State.localsInUse_invoking X.frames X.method X.code]
    simp only [State.hasRoom, Bool.and_eq_true, decide_eq_true_eq] at h ⊢
    obtain ⟨⟨⟨⟨h1, h2, h3, h4, h5, h6⟩, h7⟩, h8⟩, h9⟩ := h
    rw [X.frames, List.length_cons] at h2 h3
    have q1 := X.heapSize
    have q2 := X.used
    simp only [hF, hU, List.length_cons, State.stackLimits_setFrames, State.stackBytes_setFrames, hl9, hb9]
    refine ⟨⟨⟨⟨by omega, by omega, by omega, by omega, by omega, h6⟩, ?_⟩, ?_⟩, X.book⟩
    · show T.heap.size + R'.cells ≤ e.platform.maxCells
      omega
    · show T.slotsUsed + R'.slots ≤ e.platform.maxSlots
      omega
  · rw [State.stackLimits_setFrames]; rfl
  · rw [State.stackBytes_setFrames]; rfl
  · refine ⟨?_, Nat.le_refl _, Nat.le_refl _, ?_, ?_, fun a c9 h9 => ⟨c9, h9, rfl, rfl, fun _ _ => rfl⟩⟩
    · obtain ⟨t, ht, -⟩ := State.frames_cons hr
      show T.setVm s.vm = { ((T.setVm s.vm).setFrames (.invoking m args :: below)).setFrames (T.setVm s.vm).frames with heap := T.heap, slotsUsed := T.slotsUsed }
      rw [State.setFrames_setFrames, State.setFrames_self ht]
      rfl
    · show T.slotsUsed = T.slotsUsed + ((T.heap.toList.drop T.heap.size).map (·.slots.size)).sum
      rw [List.drop_eq_nil_of_le (Nat.le_of_eq Array.length_toList)]
      rfl
    · show ((T.heap.toList.drop T.heap.size).map (·.slots.size)).sum ≤ 0
      rw [List.drop_eq_nil_of_le (Nat.le_of_eq Array.length_toList)]
      exact Nat.le_refl _
/-- 'throw new E()': new; dup; invokespecial; athrow -/
theorem vx_throw0 {cc : ByteArray} {pc : Nat} (hexec : p.tables.exec = Jvm.exec) (hb : c.code = cc) (hl : l.stackTraces = false) {own cls : String} {names : List String} {ik ic mc ms : Nat} {A : Nat → Prop}
    (hown : s.vm.findClass own = some m.cls) (hcls : Bundle.fit cls = true) (hnames : ∀ n ∈ names, Bundle.fit n = true)
    (hk : (Cond.classLink own ik cls).before args s = true) (hini : (Cond.initialized cls).before args s = true) (hat : ∀ w ∈ vx_at0 own ic cls names, w.before args s = true)
    (hgood : ∀ w ∈ Cond.classLink own ik cls :: Cond.initialized cls :: vx_at0 own ic cls names, vx_ot w = true)
    (hU : vx_Zq Bundle.tN "UNASSIGNED_STACK" Bundle.steD A s s.heap) (hN : vx_Zq Bundle.tN "SUPPRESSED_SENTINEL" Bundle.listD A s s.heap) (hS : va_S A s.heap H locs) (hsize : ls.size = c.maxLocals)
    (d0 : decode cc pc = .ok (.new ik, 3)) (d3 : decode cc (pc + 3) = .ok (.dup, 1)) (d4 : decode cc (pc + 4) = .ok (.invokespecial ic, 3)) (d7 : decode cc (pc + 7) = .ok (.athrow, 1))
    (hout : ∀ x ∈ c.exceptionTable.toList, covers x (pc + 7) = false)
    (hRframes : names.length + 3 < R.frames) (hRlocals : (rest.map fun v => v.category).sum + (13 * (names.length + 1) + 42) ≤ R.locals) (hRcells : cells + 1 ≤ R.cells) (hRslots : slots + 6 ≤ R.slots) (hlocks : meth.locks = false)
    (hx : ∀ t : State, s.vm.Alike t.vm → H.size ≤ t.heap.size → (∀ q : Nat, q < H.size → t.heap[q]? = H[q]?) → XC cls s t)
    (hf : ∀ z ∈ locs, free z.base) (hc : cells + 1 ≤ mc) (hs : slots + 6 ≤ ms) :
    W p l e R s m args below meth c H locs cells slots (vx_MQ below Qc XC args s mc ms free) (F0 m pc ls rest) := by
  intro T hT X
  have htr : e.platform.stackTraces = false := (show e.platform.stackTraces = l.stackTraces by rw [X.admits.platform]).trans hl
  have Y := vx_rebase X (R' := { frames := R.frames, locals := R.locals, cells := 1, slots := 6 }) (Nat.le_refl _) (Nat.le_refl _) hRcells hRslots
  obtain ⟨s', hA⟩ : ∃ z, z = (T.setVm s.vm).setFrames (.invoking m args :: below) := ⟨_, rfl⟩
  rw [← hA] at Y
  have hvm : s'.vm = s.vm := by rw [hA]; rfl
  have hhp : s'.heap = H := by rw [hA]; exact hT
  have hW0 : s.WarmedH s'.vm := by rw [hvm]; exact State.WarmedH.refl s
  have hat' : ∀ w ∈ vx_at0 own ic cls names, w.before args s' = true := fun w hw => vx_ot_at hW0 hvm.symm (hgood w (List.mem_cons_of_mem _ (List.mem_cons_of_mem _ hw))) (hat w hw)
  have hk' : (Cond.classLink own ik cls).before args s' = true := vx_ot_at hW0 hvm.symm (hgood _ List.mem_cons_self) hk
  have hini' : (Cond.initialized cls).before args s' = true := vx_ot_at hW0 hvm.symm (hgood _ (List.mem_cons_of_mem _ List.mem_cons_self)) hini
  have hU' : vx_Zq Bundle.tN "UNASSIGNED_STACK" Bundle.steD A s' s'.heap := by rw [hhp]; exact vx_Zq.moved hW0.alike (hU.kept hS.2.1)
  have hN' : vx_Zq Bundle.tN "SUPPRESSED_SENTINEL" Bundle.listD A s' s'.heap := by rw [hhp]; exact vx_Zq.moved hW0.alike (hN.kept hS.2.1)
  have h : ∀ w ∈ Bundle.ownAtoms0 own ic cls names, w.before args s' = true := vx_own hat' (vx_isRefq hU'.1) (vx_isRefq hN'.1) hU'.2.word hN'.2.word
  have hown' : s'.vm.findClass own = some m.cls := by rw [hvm]; exact hown
  have hins : (Cond.instantiable cls 6).before args s' = true := h _ (by simp [Bundle.ownAtoms0])
  obtain ⟨vm₁, cX, kX, hfX, hkX, -, -, X₁, st1⟩ := Y.newCold hexec (own := own) (C := cls) (index := ik) (n := 6) hown' hk' hins hini'
    (g := F0 m pc ls rest) rfl (by rw [hb]; exact d0) (Nat.le_refl _) (Nat.le_refl _)
  generalize hT1 : (T.setVm vm₁).pushCell { cls := cX, slots := kX.instanceTypes.map defaultValue, vm := .none } = T1 at X₁ st1
  have hcat : (Value.ref T.heap.size).category = 1 := rfl
  have hcellA : T1.heap[T.heap.size]? = some (freshCell cX kX) := by rw [← hT1]; exact State.heap_pushCell_size _ _
  have d3' : decode c.code (pc + 3) = .ok (.dup, 1) := by rw [hb]; exact d3
  obtain ⟨U, hsteps, hrun, hend, hW, hsame, ce, hce, hO⟩ := X₁.ctorThrow0 hexec htr (own := own) (cls := cls) (names := names) (ic := ic) hown' hcls hnames h (fun x hx => nomatch hx) hfX hkX hcellA (by rw [hhp, hT]; exact Nat.le_refl _)
    (g := { method := m, pc := pc + 4, locals := ls, stack := .ref T.heap.size :: .ref T.heap.size :: rest, locked := none }) rfl hsize rfl rfl (rest := rest) rfl
    (by rw [hb]; exact d4) (by rw [hb]; exact d7) hout hRframes (by simp only [List.map_cons, List.sum_cons, hcat]; omega) hlocks
  obtain ⟨f1, f2⟩ := vx_frame hsame
  rw [hhp] at f1 f2
  have hWs : s.WarmedH U.vm := State.WarmedH.trans hW0 hW
  have hcl : s.vm.findClass cls = some ce.cls := by
    have h9 := hO.cls
    rw [hvm] at h9
    exact h9
  have hall : s.sameButNew ({ U with vm := s.vm } : State) locs mc ms := by
    subst hA
    obtain ⟨e1, e2⟩ := hsame
    rw [State.setFrames_setFrames] at e1
    have h2 : (T.setVm s.vm).sameButNew ({ U with vm := s.vm } : State) [] (0 + 1) (0 + 6) := ⟨e1, e2⟩
    have h3 := X.same.trans h2
    rw [List.append_nil] at h3
    exact h3.mono hc hs
  refine ⟨U, ?_, .threw T.heap.size, hrun, hend, Or.inr ⟨T.heap.size, rfl, cls, ce, locs, hx U hWs.alike f1 (fun q hq => f2 q hq (fun z hz => nomatch hz)), hce, hO.vm, hcl, hWs, hall, hf⟩⟩
  refine st1 _ ?_
  show Steps p.tables e below (T1.setTop { method := m, pc := pc + 3, locals := ls, stack := .ref T.heap.size :: rest, locked := none }) _
  jvm_step X₁.here [X₁.here.top, hexec, d3', Value.category]
  exact hsteps
/-- 'throw new E("text")': new; dup; ldc; invokespecial; athrow -/
theorem vx_throwS {cc : ByteArray} {pc : Nat} (hexec : p.tables.exec = Jvm.exec) (hb : c.code = cc) (hl : l.stackTraces = false) {own cls text : String} {names : List String} {ik is ic mc ms sa : Nat} {A : Nat → Prop}
    (hown : s.vm.findClass own = some m.cls) (hcls : Bundle.fit cls = true) (hnames : ∀ n ∈ names, Bundle.fit n = true)
    (hk : (Cond.classLink own ik cls).before args s = true) (hini : (Cond.initialized cls).before args s = true) (hstr : vk_R own is text sa s) (hat : ∀ w ∈ vx_atS own ic cls names, w.before args s = true)
    (hgood : ∀ w ∈ Cond.classLink own ik cls :: Cond.initialized cls :: vx_atS own ic cls names, vx_ot w = true)
    (hU : vx_Zq Bundle.tN "UNASSIGNED_STACK" Bundle.steD A s s.heap) (hN : vx_Zq Bundle.tN "SUPPRESSED_SENTINEL" Bundle.listD A s s.heap) (hS : va_S A s.heap H locs) (hsize : ls.size = c.maxLocals)
    (d0 : decode cc pc = .ok (.new ik, 3)) (d3 : decode cc (pc + 3) = .ok (.dup, 1)) (d4 : decode cc (pc + 4) = .ok (.ldc is, 2)) (d6 : decode cc (pc + 6) = .ok (.invokespecial ic, 3)) (d9 : decode cc (pc + 9) = .ok (.athrow, 1))
    (hout : ∀ x ∈ c.exceptionTable.toList, covers x (pc + 9) = false)
    (hRframes : names.length + 3 < R.frames) (hRlocals : (rest.map fun v => v.category).sum + (13 * (names.length + 1) + 43) ≤ R.locals) (hRcells : cells + 1 ≤ R.cells) (hRslots : slots + 6 ≤ R.slots) (hlocks : meth.locks = false)
    (hx : ∀ t : State, s.vm.Alike t.vm → H.size ≤ t.heap.size → (∀ q : Nat, q < H.size → t.heap[q]? = H[q]?) → XC cls s t)
    (hf : ∀ z ∈ locs, free z.base) (hc : cells + 1 ≤ mc) (hs : slots + 6 ≤ ms) :
    W p l e R s m args below meth c H locs cells slots (vx_MQ below Qc XC args s mc ms free) (F0 m pc ls rest) := by
  intro T hT X
  have htr : e.platform.stackTraces = false := (show e.platform.stackTraces = l.stackTraces by rw [X.admits.platform]).trans hl
  have Y := vx_rebase X (R' := { frames := R.frames, locals := R.locals, cells := 1, slots := 6 }) (Nat.le_refl _) (Nat.le_refl _) hRcells hRslots
  obtain ⟨s', hA⟩ : ∃ z, z = (T.setVm s.vm).setFrames (.invoking m args :: below) := ⟨_, rfl⟩
  rw [← hA] at Y
  have hvm : s'.vm = s.vm := by rw [hA]; rfl
  have hhp : s'.heap = H := by rw [hA]; exact hT
  have hW0 : s.WarmedH s'.vm := by rw [hvm]; exact State.WarmedH.refl s
  have hat' : ∀ w ∈ vx_atS own ic cls names, w.before args s' = true := fun w hw => vx_ot_at hW0 hvm.symm (hgood w (List.mem_cons_of_mem _ (List.mem_cons_of_mem _ hw))) (hat w hw)
  have hk' : (Cond.classLink own ik cls).before args s' = true := vx_ot_at hW0 hvm.symm (hgood _ List.mem_cons_self) hk
  have hini' : (Cond.initialized cls).before args s' = true := vx_ot_at hW0 hvm.symm (hgood _ (List.mem_cons_of_mem _ List.mem_cons_self)) hini
  have hU' : vx_Zq Bundle.tN "UNASSIGNED_STACK" Bundle.steD A s' s'.heap := by rw [hhp]; exact vx_Zq.moved hW0.alike (hU.kept hS.2.1)
  have hN' : vx_Zq Bundle.tN "SUPPRESSED_SENTINEL" Bundle.listD A s' s'.heap := by rw [hhp]; exact vx_Zq.moved hW0.alike (hN.kept hS.2.1)
  have h : ∀ w ∈ Bundle.ownAtoms own ic cls names, w.before args s' = true := vx_own hat' (vx_isRefq hU'.1) (vx_isRefq hN'.1) hU'.2.word hN'.2.word
  have hown' : s'.vm.findClass own = some m.cls := by rw [hvm]; exact hown
  have hins : (Cond.instantiable cls 6).before args s' = true := h _ (by simp [Bundle.ownAtoms])
  obtain ⟨vm₁, cX, kX, hfX, hkX, -, -, X₁, st1⟩ := Y.newCold hexec (own := own) (C := cls) (index := ik) (n := 6) hown' hk' hins hini'
    (g := F0 m pc ls rest) rfl (by rw [hb]; exact d0) (Nat.le_refl _) (Nat.le_refl _)
  generalize hT1 : (T.setVm vm₁).pushCell { cls := cX, slots := kX.instanceTypes.map defaultValue, vm := .none } = T1 at X₁ st1
  have hcat : (Value.ref T.heap.size).category = 1 := rfl
  have hcellA : T1.heap[T.heap.size]? = some (freshCell cX kX) := by rw [← hT1]; exact State.heap_pushCell_size _ _
  have d3' : decode c.code (pc + 3) = .ok (.dup, 1) := by rw [hb]; exact d3
  have d4' : decode c.code (pc + 4) = .ok (.ldc is, 2) := by rw [hb]; exact d4
  have hstr' : vk_R own is text sa s' := vk_R.warm hW0 hstr
  obtain ⟨U, hsteps, hrun, hend, hW, hsame, ce, hce, hO⟩ := X₁.ctorThrowS hexec htr (own := own) (cls := cls) (names := names) (ic := ic) hown' hcls hnames h (fun x hx => nomatch hx) hfX hkX hcellA (by rw [hhp, hT]; exact Nat.le_refl _) (msg := .ref sa) rfl
    (g := { method := m, pc := pc + 6, locals := ls, stack := .ref sa :: .ref T.heap.size :: .ref T.heap.size :: rest, locked := none }) rfl hsize rfl rfl (rest := rest) rfl
    (by rw [hb]; exact d6) (by rw [hb]; exact d9) hout hRframes (by simp only [List.map_cons, List.sum_cons, hcat]; omega) hlocks
  obtain ⟨f1, f2⟩ := vx_frame hsame
  rw [hhp] at f1 f2
  have hWs : s.WarmedH U.vm := State.WarmedH.trans hW0 hW
  have hcl : s.vm.findClass cls = some ce.cls := by
    have h9 := hO.cls
    rw [hvm] at h9
    exact h9
  have hall : s.sameButNew ({ U with vm := s.vm } : State) locs mc ms := by
    subst hA
    obtain ⟨e1, e2⟩ := hsame
    rw [State.setFrames_setFrames] at e1
    have h2 : (T.setVm s.vm).sameButNew ({ U with vm := s.vm } : State) [] (0 + 1) (0 + 6) := ⟨e1, e2⟩
    have h3 := X.same.trans h2
    rw [List.append_nil] at h3
    exact h3.mono hc hs
  refine ⟨U, ?_, .threw T.heap.size, hrun, hend, Or.inr ⟨T.heap.size, rfl, cls, ce, locs, hx U hWs.alike f1 (fun q hq => f2 q hq (fun z hz => nomatch hz)), hce, hO.vm, hcl, hWs, hall, hf⟩⟩
  refine st1 _ ?_
  show Steps p.tables e below (T1.setTop { method := m, pc := pc + 3, locals := ls, stack := .ref T.heap.size :: rest, locked := none }) _
  jvm_step X₁.here [X₁.here.top, hexec, d3', Value.category]
  exact X₁.ldcString hexec (own := own) (text := text) (index := is) (a := sa) hown' hstr'.1 hstr'.2
    (g := { method := m, pc := pc + 4, locals := ls, stack := .ref T.heap.size :: .ref T.heap.size :: rest, locked := none }) rfl d4' _ hsteps
/-- 'throw new E("text")', the text by a wide index -/
theorem vx_throwSW {cc : ByteArray} {pc : Nat} (hexec : p.tables.exec = Jvm.exec) (hb : c.code = cc) (hl : l.stackTraces = false) {own cls text : String} {names : List String} {ik is ic mc ms sa : Nat} {A : Nat → Prop}
    (hown : s.vm.findClass own = some m.cls) (hcls : Bundle.fit cls = true) (hnames : ∀ n ∈ names, Bundle.fit n = true)
    (hk : (Cond.classLink own ik cls).before args s = true) (hini : (Cond.initialized cls).before args s = true) (hstr : vk_R own is text sa s) (hat : ∀ w ∈ vx_atS own ic cls names, w.before args s = true)
    (hgood : ∀ w ∈ Cond.classLink own ik cls :: Cond.initialized cls :: vx_atS own ic cls names, vx_ot w = true)
    (hU : vx_Zq Bundle.tN "UNASSIGNED_STACK" Bundle.steD A s s.heap) (hN : vx_Zq Bundle.tN "SUPPRESSED_SENTINEL" Bundle.listD A s s.heap) (hS : va_S A s.heap H locs) (hsize : ls.size = c.maxLocals)
    (d0 : decode cc pc = .ok (.new ik, 3)) (d3 : decode cc (pc + 3) = .ok (.dup, 1)) (d4 : decode cc (pc + 4) = .ok (.ldc_w is, 3)) (d7 : decode cc (pc + 7) = .ok (.invokespecial ic, 3)) (d10 : decode cc (pc + 10) = .ok (.athrow, 1))
    (hout : ∀ x ∈ c.exceptionTable.toList, covers x (pc + 10) = false)
    (hRframes : names.length + 3 < R.frames) (hRlocals : (rest.map fun v => v.category).sum + (13 * (names.length + 1) + 43) ≤ R.locals) (hRcells : cells + 1 ≤ R.cells) (hRslots : slots + 6 ≤ R.slots) (hlocks : meth.locks = false)
    (hx : ∀ t : State, s.vm.Alike t.vm → H.size ≤ t.heap.size → (∀ q : Nat, q < H.size → t.heap[q]? = H[q]?) → XC cls s t)
    (hf : ∀ z ∈ locs, free z.base) (hc : cells + 1 ≤ mc) (hs : slots + 6 ≤ ms) :
    W p l e R s m args below meth c H locs cells slots (vx_MQ below Qc XC args s mc ms free) (F0 m pc ls rest) := by
  intro T hT X
  have htr : e.platform.stackTraces = false := (show e.platform.stackTraces = l.stackTraces by rw [X.admits.platform]).trans hl
  have Y := vx_rebase X (R' := { frames := R.frames, locals := R.locals, cells := 1, slots := 6 }) (Nat.le_refl _) (Nat.le_refl _) hRcells hRslots
  obtain ⟨s', hA⟩ : ∃ z, z = (T.setVm s.vm).setFrames (.invoking m args :: below) := ⟨_, rfl⟩
  rw [← hA] at Y
  have hvm : s'.vm = s.vm := by rw [hA]; rfl
  have hhp : s'.heap = H := by rw [hA]; exact hT
  have hW0 : s.WarmedH s'.vm := by rw [hvm]; exact State.WarmedH.refl s
  have hat' : ∀ w ∈ vx_atS own ic cls names, w.before args s' = true := fun w hw => vx_ot_at hW0 hvm.symm (hgood w (List.mem_cons_of_mem _ (List.mem_cons_of_mem _ hw))) (hat w hw)
  have hk' : (Cond.classLink own ik cls).before args s' = true := vx_ot_at hW0 hvm.symm (hgood _ List.mem_cons_self) hk
  have hini' : (Cond.initialized cls).before args s' = true := vx_ot_at hW0 hvm.symm (hgood _ (List.mem_cons_of_mem _ List.mem_cons_self)) hini
  have hU' : vx_Zq Bundle.tN "UNASSIGNED_STACK" Bundle.steD A s' s'.heap := by rw [hhp]; exact vx_Zq.moved hW0.alike (hU.kept hS.2.1)
  have hN' : vx_Zq Bundle.tN "SUPPRESSED_SENTINEL" Bundle.listD A s' s'.heap := by rw [hhp]; exact vx_Zq.moved hW0.alike (hN.kept hS.2.1)
  have h : ∀ w ∈ Bundle.ownAtoms own ic cls names, w.before args s' = true := vx_own hat' (vx_isRefq hU'.1) (vx_isRefq hN'.1) hU'.2.word hN'.2.word
  have hown' : s'.vm.findClass own = some m.cls := by rw [hvm]; exact hown
  have hins : (Cond.instantiable cls 6).before args s' = true := h _ (by simp [Bundle.ownAtoms])
  obtain ⟨vm₁, cX, kX, hfX, hkX, -, -, X₁, st1⟩ := Y.newCold hexec (own := own) (C := cls) (index := ik) (n := 6) hown' hk' hins hini'
    (g := F0 m pc ls rest) rfl (by rw [hb]; exact d0) (Nat.le_refl _) (Nat.le_refl _)
  generalize hT1 : (T.setVm vm₁).pushCell { cls := cX, slots := kX.instanceTypes.map defaultValue, vm := .none } = T1 at X₁ st1
  have hcat : (Value.ref T.heap.size).category = 1 := rfl
  have hcellA : T1.heap[T.heap.size]? = some (freshCell cX kX) := by rw [← hT1]; exact State.heap_pushCell_size _ _
  have d3' : decode c.code (pc + 3) = .ok (.dup, 1) := by rw [hb]; exact d3
  have d4' : decode c.code (pc + 4) = .ok (.ldc_w is, 3) := by rw [hb]; exact d4
  have hstr' : vk_R own is text sa s' := vk_R.warm hW0 hstr
  obtain ⟨U, hsteps, hrun, hend, hW, hsame, ce, hce, hO⟩ := X₁.ctorThrowS hexec htr (own := own) (cls := cls) (names := names) (ic := ic) hown' hcls hnames h (fun x hx => nomatch hx) hfX hkX hcellA (by rw [hhp, hT]; exact Nat.le_refl _) (msg := .ref sa) rfl
    (g := { method := m, pc := pc + 7, locals := ls, stack := .ref sa :: .ref T.heap.size :: .ref T.heap.size :: rest, locked := none }) rfl hsize rfl rfl (rest := rest) rfl
    (by rw [hb]; exact d7) (by rw [hb]; exact d10) hout hRframes (by simp only [List.map_cons, List.sum_cons, hcat]; omega) hlocks
  obtain ⟨f1, f2⟩ := vx_frame hsame
  rw [hhp] at f1 f2
  have hWs : s.WarmedH U.vm := State.WarmedH.trans hW0 hW
  have hcl : s.vm.findClass cls = some ce.cls := by
    have h9 := hO.cls
    rw [hvm] at h9
    exact h9
  have hall : s.sameButNew ({ U with vm := s.vm } : State) locs mc ms := by
    subst hA
    obtain ⟨e1, e2⟩ := hsame
    rw [State.setFrames_setFrames] at e1
    have h2 : (T.setVm s.vm).sameButNew ({ U with vm := s.vm } : State) [] (0 + 1) (0 + 6) := ⟨e1, e2⟩
    have h3 := X.same.trans h2
    rw [List.append_nil] at h3
    exact h3.mono hc hs
  refine ⟨U, ?_, .threw T.heap.size, hrun, hend, Or.inr ⟨T.heap.size, rfl, cls, ce, locs, hx U hWs.alike f1 (fun q hq => f2 q hq (fun z hz => nomatch hz)), hce, hO.vm, hcl, hWs, hall, hf⟩⟩
  refine st1 _ ?_
  show Steps p.tables e below (T1.setTop { method := m, pc := pc + 3, locals := ls, stack := .ref T.heap.size :: rest, locked := none }) _
  jvm_step X₁.here [X₁.here.top, hexec, d3', Value.category]
  exact X₁.ldcStringW hexec (own := own) (text := text) (index := is) (a := sa) hown' hstr'.1 hstr'.2
    (g := { method := m, pc := pc + 4, locals := ls, stack := .ref T.heap.size :: .ref T.heap.size :: rest, locked := none }) rfl d4' _ hsteps
end Ends
section Bodies
variable {l : Launch}
theorem vx_ofW {y : MethodName} {ws ws' : List Cond} {rm : Room} {Pc : Array Value → State → Prop} {Qc : Array Value → State → Outcome → State → Prop} {XC : String → State → State → Prop} {mc ms : Nat} {free : Addr → Prop} {cc : ByteArray} {maxL : Nat} {ret : Option FieldType}
    (hy : plainName y.cls = true) (hw : ws = Cond.code y cc maxL ret :: ws')
    (body : ∀ p e s m args below meth c s₁, BodyLoose p l y (headSpec ws rm) cc maxL ret e s m args below meth c s₁ → c.maxLocals = maxL → (∀ x ∈ c.exceptionTable.toList, False) → Pc args s →
      W p l e (headSpec ws rm).room s m args below meth c s.heap [] 0 0 (vx_MQ below Qc XC args s mc ms free) (entryFrame m args maxL)) : vx_Met l y ws rm Pc Qc XC mc ms free := by
  refine MetFree.of_bodyS (code := cc) (maxLocals := maxL) (ret := ret) hy ?_ ?_
  · intro args s m h hn
    obtain ⟨meth, c, h1, h2, h3, h4, h5, h6, -, -⟩ := Cond.code_spec hn (atoms_spec (ws := ws) h _ (by rw [hw]; exact List.mem_cons_self))
    exact ⟨meth, c, h1, h2, h3, h4, h5, h6⟩
  · intro p e s m args below meth c s₁ B hml hP _
    have hh0 : s₁.heap = s.heap := by rw [B.state]; rfl
    have ht : ∀ x ∈ c.exceptionTable.toList, False := by
      obtain ⟨meth9, c9, h1, h2, -, -, -, -, h7, -⟩ := Cond.code_spec B.named (atoms_spec (ws := ws) B.pre _ (by rw [hw]; exact List.mem_cons_self))
      cases Option.some.inj (h1.symm.trans B.method)
      cases Option.some.inj (h2.symm.trans (Stand.of_body B).code)
      intro x hx
      rw [Array.isEmpty_iff.mp h7] at hx
      cases hx
    obtain ⟨t, a1, o, b1, b2, b3⟩ := body p e s m args below meth c s₁ B hml ht hP s₁ hh0 (Stand.of_body B)
    exact ⟨t, o, a1, b1, b2, b3⟩
/-- the table of a body with handlers -/
theorem vx_table {p : Program} {x y : MethodName} {S : Spec} {cc bytes : ByteArray} {maxL maxL' : Nat} {ret ret' : Option FieldType} {e : Env} {s s₁ : State} {m : MethodId} {args : Array Value} {below : List Frame} {meth : Method} {c : Code} {hh : List (Nat × Nat × Nat × Nat)}
    (B : BodyLoose p l y S cc maxL ret e s m args below meth c s₁) (h : (Cond.codeWith y bytes maxL' ret' hh).before args s = true) : c.exceptionTable.toList = tableOf hh := by
  obtain ⟨m9, meth9, c9, hn9, h1, h2, -, -, h6, -⟩ := Cond.codeWith_spec h
  cases Option.some.inj (hn9.symm.trans B.named)
  cases Option.some.inj (h1.symm.trans B.method)
  cases Option.some.inj (h2.symm.trans (Stand.of_body B).code)
  rw [← h6, table_eq]
end Bodies
end VXA
/-! ===== END ===== -/
/-! ===== BEGIN a static call of a method with an exception table ===== -/
section VXS
variable {p : Program} {l : Launch} {e : Env} {R : Room} {s : State} {m : MethodId} {args : Array Value} {below : List Frame} {meth : Method} {c : Code} {T : State} {H : Heap} {locs : List Loc} {cells slots : Nat}
abbrev vx_CSW (R : Room) (s : State) (args : Array Value) (own : String) (index : Nat) (y : MethodName) (bytes : ByteArray) (maxL : Nat) (ret : Option FieldType) (hh : List (Nat × Nat × Nat × Nat)) (ws : List Cond) (rm : Room) (mc ms n : Nat) : Prop :=
  (rm.cells = mc ∧ rm.slots = ms ∧ rm.frames + 1 ≤ R.frames ∧ 8 + (maxL + 11) + rm.locals ≤ R.locals ∧ (∀ w ∈ ws, ∀ (a' : Array Value) (U : State), s.WarmedH U.vm → w.before a' U = true) ∧ Cond.codeWith y bytes maxL ret hh ∈ ws) ∧
  (Cond.codeWith y bytes maxL ret hh).before args s = true ∧ (Cond.initialized y.cls).before args s = true ∧ (y.cls ≠ "java/lang/invoke/MethodHandle" ∧ y.cls ≠ "java/lang/invoke/VarHandle") ∧
  (∀ sig, parseMethodDescriptor y.desc = some sig → n = sig.parameters.length) ∧ (Cond.methodLink own index y).before args s = true ∧ (Cond.static y).before args s = true
theorem vx_cwSW {own : String} {index maxL mc ms : Nat} {y : MethodName} {bytes : ByteArray} {ret : Option FieldType} {hh : List (Nat × Nat × Nat × Nat)} {Ts ws ws' : List Cond} {rm : Room} (n : Nat) (ht : ∀ w ∈ Ts, w.before args s = true) (hT : GoodIn Ts (va_wsS own index y ws)) (hw : ws = Cond.codeWith y bytes maxL ret hh :: ws') (hrc : rm.cells = mc) (hrs : rm.slots = ms)
    (hd : y.cls ≠ "java/lang/invoke/MethodHandle" ∧ y.cls ≠ "java/lang/invoke/VarHandle" ∧ (parseMethodDescriptor y.desc).map (fun d => d.parameters.length) = some n) (hR : rm.frames + 1 ≤ R.frames ∧ 8 + (maxL + 11) + rm.locals ≤ R.locals) :
    vx_CSW R s args own index y bytes maxL ret hh ws rm mc ms n := by
  have ok : ∀ w ∈ va_wsS own index y ws, w.before args s = true := fun w h => ht w (hT w h).1
  have hG : GoodIn Ts ws := fun w h => hT w (by unfold va_wsS; exact List.mem_append_right _ h)
  have hc : Cond.codeWith y bytes maxL ret hh ∈ ws := by rw [hw]; exact List.mem_cons_self
  refine ⟨⟨hrc, hrs, hR.1, hR.2, pay_in ht hG, hc⟩, ht _ (hG _ hc).1, ok _ (by simp [va_wsS]), ⟨hd.1, hd.2.1⟩, fun sig h => ?_, ok _ (by simp [va_wsS]), ok _ (by simp [va_wsS])⟩
  have h2 := hd.2.2
  rw [h] at h2
  exact (Option.some.inj h2).symm
theorem vx_callSW (X : Stand p l e R s m args below meth c T locs cells slots) (hexec : p.tables.exec = Jvm.exec) {own : String} {index : Nat} {y : MethodName} {bytes : ByteArray} {maxL : Nat} {ret : Option FieldType} {hh : List (Nat × Nat × Nat × Nat)}
    (hown : s.vm.findClass own = some m.cls) (hlink : (Cond.methodLink own index y).before args s = true) (hstat : (Cond.static y).before args s = true) (hinit : (Cond.initialized y.cls).before args s = true)
    (hcode : (Cond.codeWith y bytes maxL ret hh).before args s = true) (hy : y.cls ≠ "java/lang/invoke/MethodHandle" ∧ y.cls ≠ "java/lang/invoke/VarHandle")
    {W9 : Nat} {Pre : Pt → Array Value → Prop} {Post : Pt → Array Value → Option Value → Pt → Prop} (hK : Back l R p e below s args y 3 W9 Pre Post)
    {g : JFrame} (hg : g.method = m) (hsize : g.locals.size = c.maxLocals) {argsL rest : List Value} (hlen : ∀ sig, parseMethodDescriptor y.desc = some sig → argsL.length = sig.parameters.length)
    (hstack : g.stack = argsL.reverse ++ rest) (hW : 2 * g.monitorRoom + (rest.map fun v => v.category).sum ≤ W9) (hdg : decode c.code g.pc = .ok (.invokestatic index, 3))
    (hpre : ∀ vm₁, s.WarmedH vm₁ → Pre ⟨T.setVm vm₁, locs, cells, slots⟩ argsL.toArray) :
    ∃ (v : Option Value) (vm₁ : Vm) (B : Pt), s.WarmedH vm₁ ∧ Stand p l e R s m args below meth c B.U B.locs B.cells B.slots ∧ Post ⟨T.setVm vm₁, locs, cells, slots⟩ argsL.toArray v B ∧
      ∀ target, Steps p.tables e below (B.U.setTop { g with pc := g.pc + 3, stack := v.toList ++ rest }) target → Steps p.tables e below (T.setTop g) target := by
  obtain ⟨mk, methM, cM, hnamed, hmethM, -, -, -, -, -, -, hsigM⟩ := Cond.codeWith_spec hcode
  have hstatic : methM.isStatic = true := Cond.static_spec hnamed hmethM hstat
  obtain ⟨kP, hkP, -⟩ := className_of_methodNamed hnamed
  have hinitP : kP.init = .initialized := Cond.initialized_spec (findClass_of_methodNamed hnamed) hkP hinit
  obtain ⟨vm₁, X₁, hstep₁⟩ := X.invokestatic hexec hown hlink hnamed hmethM hstatic hkP hinitP hy (g := g) hg (argsL := argsL) (rest := rest) (hlen _ hsigM) hstack hdg
  obtain ⟨v, B, X', hpost, hsteps⟩ := hK m meth c ⟨T.setVm vm₁, locs, cells, slots⟩ { g with stack := rest } (.invokestatic index) mk argsL.toArray X₁ hg hsize hdg hW (X₁.named hnamed) (hpre vm₁ X₁.warmed)
  exact ⟨v, vm₁, B, X₁.warmed, X', hpost, fun target h => hstep₁ _ fun acts => by rw [doInvoke_state]; exact hsteps.trans h⟩
theorem vx_runSW {y : MethodName} {bytes cc : ByteArray} {maxL nL mc ms n index : Nat} {ret : Option FieldType} {hh : List (Nat × Nat × Nat × Nat)} {ws : List Cond} {rm : Room} {Pc : Array Value → State → Prop} {Qc : Array Value → State → Outcome → State → Prop} {free : Addr → Prop} {Ts : List Cond} {own : String} {As rest : List Value} {g : JFrame}
    (S : CallFix p m c cc nL s args Ts own) (hM : Met l y ws rm Pc Qc mc ms free) (cw : vx_CSW R s args own index y bytes maxL ret hh ws rm mc ms n) (hp : PreS s H Pc As)
    (hg : g.method = m) (hn : As.length = n) (hsize : g.locals.size = nL) (hstack : g.stack = As.reverse ++ rest) (hW : 2 * g.monitorRoom + (rest.map fun v => v.category).sum ≤ 8) (hdg : decode cc g.pc = .ok (.invokestatic index, 3)) (hf : cells + mc ≤ R.cells ∧ slots + ms ≤ R.slots) :
    va_Run p l e R s m args below meth c H locs cells slots mc ms g rest (Qc As.toArray) (free) := by
  obtain ⟨⟨hrc, hrs, hfr, hlo, hws, hcw⟩, hcode, hini, hy, hlen, hl, hstt⟩ := cw
  have hK : Back l R p e below s args y 3 8 (PreOf R mc ms Pc) (PostOf Qc mc ms free) := va_backW (hh := hh) (bytes := bytes) (maxL := maxL) (ret := ret) hM hp.1 hrc hrs hfr hlo hws hcw (fun a' U hW => word_at hW (Or.inl (by first | rfl | simp [Cond.onTables, Cond.keeps, Cond.steady])) hini)
  obtain ⟨hx, hb, hml, ho, -⟩ := S
  intro T hT X
  obtain ⟨v, vm₁, ⟨U', l2, c2, s2⟩, hW₁, X', ⟨g', mk, t, L, e1, e2, hq, h1, hL, h2, h3⟩, st⟩ := vx_callSW X hx (hh := hh) (bytes := bytes) (maxL := maxL) (ret := ret) ho hl hstt hini hcode hy hK hg (hsize.trans hml.symm) (argsL := As) (rest := rest) (fun sig h => hn.trans (hlen sig h)) hstack hW (by rw [hb]; exact hdg)
    (fun vm₁ hW₁ => ⟨hf.1, hf.2, hp.2 (T.setVm vm₁) hT hW₁⟩)
  dsimp only [Pt.U, Pt.locs, Pt.cells, Pt.slots] at X' e1 e2 h1 h2 h3 st
  subst h1; subst h2; subst h3
  exact ⟨v, (T.setVm vm₁).calling g' mk As.toArray, t, U', L, hT, X', hL, e1, e2, hq, st⟩
/-- not caught here, past rows that name other classes: it goes on to the caller -/
theorem vx_outP {p : Program} {l : Launch} {e : Env} {R : Room} {s : State} {m : MethodId} {args : Array Value} {below : List Frame} {meth : Method} {c : Code} {H : Heap} {locs : List Loc} {cells slots : Nat} {free : Addr → Prop} {ls : Array Slot} {rest : List Value} {Qc : Array Value → State → Outcome → State → Prop} {XC : String → State → State → Prop}
    {pc : Nat} {own E : String} {ce : Cell} {q : Addr} {mc ms : Nat} (hown : s.vm.findClass own = some m.cls) (hlocks : meth.locks = false)
    (hpass : ∀ z ∈ c.exceptionTable.toList, covers z pc = false ∨ (z.catchType ≠ 0 ∧ ∃ nm : String, (Cond.classLink own z.catchType nm).before args s = true ∧ va_Nc E nm s)) (hcell : H[q]? = some ce) (hv : ce.vm = .none) (hcl : s.vm.findClass E = some ce.cls)
    (hx : ∀ t : State, t.heap = H → s.vm.Alike t.vm → XC E s t) (hf : ∀ z ∈ locs, free z.base) (hc : cells ≤ mc) (hs : slots ≤ ms) :
    vx_W p l e R s m args below meth c H locs cells slots (vx_MQ below Qc XC args s mc ms free) (F0 m pc ls rest) q := by
  intro T hT X
  have hpl : e.platform.magicAccessors = ({} : Platform).magicAccessors := by rw [X.admits.platform]
  obtain ⟨vm', hW', X', st⟩ := X.outThrough hlocks q (g := F0 m pc ls rest) rfl rfl rfl (cell := ce) (by rw [hT]; exact hcell) (by rw [hv]; rfl)
    (by obtain ⟨k9, h9, -⟩ := Vm.findClass_spec hcl; exact ⟨k9, h9⟩) (fun z hz => by
      rcases hpass z hz with h | ⟨hz0, nm, hl1, hn1⟩
      · exact Or.inl h
      · obtain ⟨c6, hc6, hcl6⟩ := Cond.classLink_spec hown hl1 e.platform hpl
        obtain ⟨a8, b8, h1, h2, h3⟩ := hn1
        cases Option.some.inj (h1.symm.trans hcl)
        cases Option.some.inj (h2.symm.trans hc6)
        exact Or.inr ⟨hz0, _, hcl6, h3⟩)
  obtain ⟨g₀, hfr⟩ := X'.frames_eq
  have hcell9 : ((T.setVm vm').setFrames (.throwing q :: below)).heap[q]? = some ce := by
    show T.heap[q]? = some ce
    rw [hT]; exact hcell
  have hend : Ended ((T.setVm vm').setFrames (.throwing q :: below)) below (.threw q) := State.frames_setFrames _ (State.cur_lt_of_frames hfr)
  refine ⟨(T.setVm vm').setFrames (.throwing q :: below), ?_, .threw q, X'.here.running, hend, Or.inr ⟨q, rfl, E, ce, locs, hx _ hT (X'.ends _).1.alike, hcell9, hv, hcl, (X'.ends _).1, (X'.ends _).2.mono hc hs, hf⟩⟩
  rw [X.pushThrowing_eq]
  exact st
/-- a thing of a world lies in the heap -/
theorem vx_lt {D : va_G} {cl : List vw_C} {ws : va_W} {H1 : Heap} (h : va_P D cl ws H1) {k : Nat} {q : Nat × va_E} (hk : ws[k]? = some q) : q.1 < H1.size := (h k q hk).lt
end VXS
/-! ===== END ===== -/
/-! ===== BEGIN methods with a table of their own: called by a name, returning or throwing ===== -/
section VXH
/-! vx_backW, vx_callVX, vx_callSX, vx_callVW, vx_runVW, vx_runVX, vx_runSX, vx_ofWH follow the same proofs as their sisters above (Free/Laws.lean, Shelf42/LK1.lean); vx_outP calls Shelf42/NT130.lean (outThrough). -/
section
variable {l : Launch} {R : Room} {p : Program} {e : Env} {below : List Frame} {s : State} {sargs : Array Value} {y : MethodName} {len W9 : Nat}
theorem vx_backW {ws : List Cond} {rm : Room} {Pc : Array Value → State → Prop} {Qc : Array Value → State → Outcome → State → Prop} {XC : String → State → State → Prop} {mc ms : Nat} {free : Addr → Prop} {bytes : ByteArray} {maxL : Nat} {ret : Option FieldType} {hh : List (Nat × Nat × Nat × Nat)}
    (hM : vx_Met l y ws rm Pc Qc XC mc ms free) (hblind : FrameBlind Pc) (hrc : rm.cells = mc) (hrs : rm.slots = ms)
    (hframes : rm.frames + 1 ≤ R.frames) (hlocals : W9 + (maxL + 11) + rm.locals ≤ R.locals)
    (hws : ∀ w ∈ ws, ∀ a' U, s.WarmedH U.vm → w.before a' U = true) (hcode : Cond.codeWith y bytes maxL ret hh ∈ ws) (hinit : ∀ a' U, s.WarmedH U.vm → (Cond.initialized y.cls).before a' U = true) :
    vx_Back l R p e below s sargs y len W9 (PreOf R mc ms Pc) (PostOf Qc mc ms free) (vx_Post XC mc ms free) := by
  intro m meth c A g ig mk a X hg hsize hdg hW hn hp
  have h1 : (headSpec ws rm).pre.before a A.U = true := atoms_intro fun w hw => hws w hw _ _ X.warmed
  have h2 : (Cond.codeWith y bytes maxL ret hh).before a A.U = true := hws _ hcode _ _ X.warmed
  have h3 : (Cond.initialized y.cls).before a A.U = true := hinit _ _ X.warmed
  have h4 : A.cells + (headSpec ws rm).room.cells ≤ R.cells := by rw [show (headSpec ws rm).room.cells = mc from hrc]; exact hp.1
  have h5 : A.slots + (headSpec ws rm).room.slots ≤ R.slots := by rw [show (headSpec ws rm).room.slots = ms from hrs]; exact hp.2.1
  have hPc : Pc a (A.U.calling g mk a) := hblind _ _ _ _ hp.2.2
  obtain ⟨U, Ls, c0, s0⟩ := A
  dsimp only [Pt.U, Pt.locs, Pt.cells, Pt.slots] at h1 h2 h3 h4 h5 X hn hPc ⊢
  obtain ⟨m9, methY, cY, hn9, hmY, hcY, -, hlY, -⟩ := Cond.codeWith_spec h2
  cases Option.some.inj (hn9.symm.trans hn)
  obtain ⟨kY, hkY, -⟩ := className_of_methodNamed hn
  have hinitY : kY.init = .initialized := Cond.initialized_spec (findClass_of_methodNamed hn) hkY h3
  have h : At U g.method c below := by rw [hg]; exact X.here
  have hlocals9 : W9 + (maxL + 11) + (headSpec ws rm).room.locals ≤ R.locals := hlocals
  have happ : (headSpec ws rm).appliesLoose y e.platform (U.calling g mk a) = true :=
    Spec.appliesLoose_calling (g := g) h hdg hn hkY hinitY
      (X.room_calling (g := g) (R' := (headSpec ws rm).room) hsize hmY hcY hframes (by rw [hlY]; omega) h4 h5) h1
  obtain ⟨mid, hmid⟩ := h.above
  have hfr : (U.setTop g).frames = (.java g :: mid) ++ below := by rw [State.frames_setTop' g h.top, hmid]; rfl
  obtain ⟨o, s₂, hsteps, -, hend, hq⟩ := Steps.callFree hM p X.admits X.cas X.clock (acts := []) hfr happ hPc trivial
  have hq' : vx_Q Qc XC mc ms free a (U.calling g mk a) o s₂ := hq
  rw [State.frames_setTop' g h.top] at hend
  obtain ⟨g₀, hg0⟩ := Option.isSome_iff_exists.mp h.top
  obtain ⟨r, hr⟩ := State.topJava?_eq_some.mp hg0
  have hr' : (({ U with heap := s₂.heap, slotsUsed := s₂.slotsUsed } : State).setVm s₂.vm).frames = .java g₀ :: r := hr
  rcases hq' with ⟨hqc, L, hfe, hL⟩ | ⟨q, rfl, E, ce, L, hx, hce, hcv, hcl, hW₂, hsm, hL⟩
  · obtain ⟨⟨v, rfl⟩, hW₂, e2, q2, q3, q4, q5, q6⟩ := id hfe
    have e3 : s₂ = ({ (U.calling g mk a).setFrames s₂.frames with heap := s₂.heap, slotsUsed := s₂.slotsUsed } : State).setVm s₂.vm := by
      have : s₂ = ({ s₂ with vm := (U.calling g mk a).vm } : State).setVm s₂.vm := rfl
      rw [e2] at this
      exact this
    obtain ⟨c₂, i₂, len₂, hc₂, hd₂, hf₂⟩ := hend
    have hW' : U.WarmedH s₂.vm := hW₂
    have hcc : c₂ = c := by
      have h1 : s₂.code? g.method = U.code? g.method := by
        rw [State.code?_eq, State.code?_eq, hW'.alike.method?]
      exact Option.some.inj (hc₂.symm.trans (h1.trans h.code))
    subst hcc
    have hlen : len₂ = len := by rw [hdg] at hd₂; cases hd₂; rfl
    subst hlen
    have hs₂ : s₂ = (({ U with heap := s₂.heap, slotsUsed := s₂.slotsUsed } : State).setVm s₂.vm).setTop { g with pc := g.pc + len₂, stack := v.toList ++ g.stack } := by
      refine e3.trans ?_
      rw [hf₂, State.calling_eq h.top, State.setFrames_setFrames, State.setTop_of_frames _ hr', hr]
      rfl
    have hsame : U.sameButNew ({ U with heap := s₂.heap, slotsUsed := s₂.slotsUsed } : State) L mc ms := by
      refine ⟨?_, q2, q3, q4, q5, q6⟩
      obtain ⟨t, ht, -⟩ := State.frames_cons hr
      show ({ U with heap := s₂.heap, slotsUsed := s₂.slotsUsed } : State) = { U.setFrames U.frames with heap := s₂.heap, slotsUsed := s₂.slotsUsed }
      rw [State.setFrames_self ht]
    subst hg
    refine Or.inl ⟨v, ⟨(({ U with heap := s₂.heap, slotsUsed := s₂.slotsUsed } : State).setVm s₂.vm), Ls ++ L, c0 + mc, s0 + ms⟩,
      ⟨X.admits, X.cas, X.clock, X.frames, X.room, X.hears, X.method, X.code, (X.here.setHeapUsed s₂.heap s₂.slotsUsed).setVm hW'.alike, X.tail, State.WarmedH.trans X.warmed hW', X.limits, X.bytes, X.same.trans (hsame.setVm s.vm)⟩,
      ⟨g, mk, s₂, L, rfl, rfl, hqc, rfl, hL, rfl, rfl⟩, ?_⟩
    show Steps p.tables e below _ ((({ U with heap := s₂.heap, slotsUsed := s₂.slotsUsed } : State).setVm s₂.vm).setTop { g with pc := g.pc + len₂, stack := v.toList ++ g.stack })
    rw [← hs₂]
    exact hsteps
  · obtain ⟨e2, q2, q3, q4, q5, q6⟩ := id hsm
    have e3 : s₂ = ({ (U.calling g mk a).setFrames s₂.frames with heap := s₂.heap, slotsUsed := s₂.slotsUsed } : State).setVm s₂.vm := by
      have : s₂ = ({ s₂ with vm := (U.calling g mk a).vm } : State).setVm s₂.vm := rfl
      rw [e2] at this
      exact this
    have hf₂ : s₂.frames = .throwing q :: .java g :: U.frames.tail := hend
    have hW' : U.WarmedH s₂.vm := hW₂
    have hs₂ : s₂ = ((({ U with heap := s₂.heap, slotsUsed := s₂.slotsUsed } : State).setVm s₂.vm).setTop g).pushFrame (.throwing q) := by
      refine e3.trans ?_
      rw [hf₂, State.calling_eq h.top, State.setFrames_setFrames, State.pushFrame, State.frames_setTop _ hr', State.setTop_of_frames _ hr', State.setFrames_setFrames, hr]
      rfl
    have hsame : U.sameButNew ({ U with heap := s₂.heap, slotsUsed := s₂.slotsUsed } : State) L mc ms := by
      refine ⟨?_, q2, q3, q4, q5, q6⟩
      obtain ⟨t, ht, -⟩ := State.frames_cons hr
      show ({ U with heap := s₂.heap, slotsUsed := s₂.slotsUsed } : State) = { U.setFrames U.frames with heap := s₂.heap, slotsUsed := s₂.slotsUsed }
      rw [State.setFrames_self ht]
    subst hg
    refine Or.inr ⟨q, ⟨(({ U with heap := s₂.heap, slotsUsed := s₂.slotsUsed } : State).setVm s₂.vm), Ls ++ L, c0 + mc, s0 + ms⟩,
      ⟨X.admits, X.cas, X.clock, X.frames, X.room, X.hears, X.method, X.code, (X.here.setHeapUsed s₂.heap s₂.slotsUsed).setVm hW'.alike, X.tail, State.WarmedH.trans X.warmed hW', X.limits, X.bytes, X.same.trans (hsame.setVm s.vm)⟩,
      ⟨g, mk, s₂, L, E, ce, rfl, rfl, hx, hce, hcv, hcl, rfl, hL, rfl, rfl⟩, ?_⟩
    show Steps p.tables e below _ (((({ U with heap := s₂.heap, slotsUsed := s₂.slotsUsed } : State).setVm s₂.vm).setTop g).pushFrame (.throwing q))
    rw [← hs₂]
    exact hsteps
end
variable {p : Program} {l : Launch} {e : Env} {R : Room} {s : State} {m : MethodId} {args : Array Value} {below : List Frame} {meth : Method} {c : Code} {T : State} {H : Heap} {locs : List Loc} {cells slots : Nat}
theorem vx_callVX (X : Stand p l e R s m args below meth c T locs cells slots) (hexec : p.tables.exec = Jvm.exec) {own C : String} {index : Nat} {y : MethodName} {bytes : ByteArray} {maxL : Nat} {ret : Option FieldType} {hh : List (Nat × Nat × Nat × Nat)}
    (hown : s.vm.findClass own = some m.cls) (hlink : (Cond.methodLink own index y).before args s = true) (hinst : (Cond.instanceMethod y).before args s = true) (hsel : (Cond.selects C y y).before args s = true)
    (hcode : (Cond.codeWith y bytes maxL ret hh).before args s = true) (hy : y.cls ≠ "java/lang/invoke/MethodHandle" ∧ y.cls ≠ "java/lang/invoke/VarHandle")
    {W9 : Nat} {Pre : Pt → Array Value → Prop} {Post : Pt → Array Value → Option Value → Pt → Prop} {PostX : Pt → Array Value → Addr → Pt → Prop} (hK : vx_Back l R p e below s args y 3 W9 Pre Post PostX)
    {b : Addr} {cellB : Cell} (hcell : T.heap[b]? = some cellB) (hobj : cellB.vm.isStatics = false) (hcls : s.vm.findClass C = some cellB.cls)
    {g : JFrame} (hg : g.method = m) (hsize : g.locals.size = c.maxLocals) {argsL rest : List Value} (hlen : ∀ sig, parseMethodDescriptor y.desc = some sig → argsL.length = sig.parameters.length)
    (hstack : g.stack = argsL.reverse ++ .ref b :: rest) (hW : 2 * g.monitorRoom + (rest.map fun v => v.category).sum ≤ W9) (hdg : decode c.code g.pc = .ok (.invokevirtual index, 3))
    (hpre : ∀ vm₁, s.WarmedH vm₁ → Pre ⟨T.setVm vm₁, locs, cells, slots⟩ (Value.ref b :: argsL).toArray) :
    (∃ (v : Option Value) (vm₁ : Vm) (B : Pt), s.WarmedH vm₁ ∧ Stand p l e R s m args below meth c B.U B.locs B.cells B.slots ∧ Post ⟨T.setVm vm₁, locs, cells, slots⟩ (Value.ref b :: argsL).toArray v B ∧
      ∀ target, Steps p.tables e below (B.U.setTop { g with pc := g.pc + 3, stack := v.toList ++ rest }) target → Steps p.tables e below (T.setTop g) target) ∨
    (∃ (q : Addr) (vm₁ : Vm) (B : Pt), s.WarmedH vm₁ ∧ Stand p l e R s m args below meth c B.U B.locs B.cells B.slots ∧ PostX ⟨T.setVm vm₁, locs, cells, slots⟩ (Value.ref b :: argsL).toArray q B ∧
      Steps p.tables e below (T.setTop g) ((B.U.setTop { g with stack := rest }).pushFrame (.throwing q))) := by
  obtain ⟨mk, methM, hnamed, hmethM, hstM, habM⟩ := Cond.instanceMethod_spec hinst
  obtain ⟨m8, methM', cM, hn8, hmethM', -, -, -, -, -, -, hsigM⟩ := Cond.codeWith_spec hcode
  cases Option.some.inj (hn8.symm.trans hnamed)
  cases hmethM.symm.trans hmethM'
  obtain ⟨c2, r2, m2, q1, q2, q3, q4, kP, hkP, hkPi⟩ := Cond.selects_spec hsel
  cases hcls.symm.trans q1
  cases (State.methodFound?_of_named hnamed hy).symm.trans q2
  cases hnamed.symm.trans q3
  have hselP : selectMethod e.platform s.vm cellB.cls mk = .method mk := by rw [Launch.admits_selectMethod X.admits]; exact q4
  obtain ⟨vm₁, X₁, hstep₁⟩ := X.invokevirtual hexec hown hlink hnamed hmethM hstM hkP hkPi hy (a := b) (cell := cellB) hcell
    (fun z h => by rw [h] at hobj; cases hobj) hselP hmethM habM hkP hkPi (g := g) hg (argsL := argsL) (rest := rest) (hlen _ hsigM) hstack hdg
  rcases hK m meth c ⟨T.setVm vm₁, locs, cells, slots⟩ { g with stack := rest } (.invokevirtual index) mk (Value.ref b :: argsL).toArray X₁ hg hsize hdg hW (X₁.named hnamed) (hpre vm₁ X₁.warmed) with ⟨v, B, X', hpost, hsteps⟩ | ⟨q, B, X', hpost, hsteps⟩
  · exact Or.inl ⟨v, vm₁, B, X₁.warmed, X', hpost, fun target h => hstep₁ _ fun acts => by rw [doInvoke_state]; exact hsteps.trans h⟩
  · exact Or.inr ⟨q, vm₁, B, X₁.warmed, X', hpost, hstep₁ _ fun acts => by rw [doInvoke_state]; exact hsteps⟩
theorem vx_callSX (X : Stand p l e R s m args below meth c T locs cells slots) (hexec : p.tables.exec = Jvm.exec) {own : String} {index : Nat} {y : MethodName} {bytes : ByteArray} {maxL : Nat} {ret : Option FieldType} {hh : List (Nat × Nat × Nat × Nat)}
    (hown : s.vm.findClass own = some m.cls) (hlink : (Cond.methodLink own index y).before args s = true) (hstat : (Cond.static y).before args s = true) (hinit : (Cond.initialized y.cls).before args s = true)
    (hcode : (Cond.codeWith y bytes maxL ret hh).before args s = true) (hy : y.cls ≠ "java/lang/invoke/MethodHandle" ∧ y.cls ≠ "java/lang/invoke/VarHandle")
    {W9 : Nat} {Pre : Pt → Array Value → Prop} {Post : Pt → Array Value → Option Value → Pt → Prop} {PostX : Pt → Array Value → Addr → Pt → Prop} (hK : vx_Back l R p e below s args y 3 W9 Pre Post PostX)
    {g : JFrame} (hg : g.method = m) (hsize : g.locals.size = c.maxLocals) {argsL rest : List Value} (hlen : ∀ sig, parseMethodDescriptor y.desc = some sig → argsL.length = sig.parameters.length)
    (hstack : g.stack = argsL.reverse ++ rest) (hW : 2 * g.monitorRoom + (rest.map fun v => v.category).sum ≤ W9) (hdg : decode c.code g.pc = .ok (.invokestatic index, 3))
    (hpre : ∀ vm₁, s.WarmedH vm₁ → Pre ⟨T.setVm vm₁, locs, cells, slots⟩ argsL.toArray) :
    (∃ (v : Option Value) (vm₁ : Vm) (B : Pt), s.WarmedH vm₁ ∧ Stand p l e R s m args below meth c B.U B.locs B.cells B.slots ∧ Post ⟨T.setVm vm₁, locs, cells, slots⟩ argsL.toArray v B ∧
      ∀ target, Steps p.tables e below (B.U.setTop { g with pc := g.pc + 3, stack := v.toList ++ rest }) target → Steps p.tables e below (T.setTop g) target) ∨
    (∃ (q : Addr) (vm₁ : Vm) (B : Pt), s.WarmedH vm₁ ∧ Stand p l e R s m args below meth c B.U B.locs B.cells B.slots ∧ PostX ⟨T.setVm vm₁, locs, cells, slots⟩ argsL.toArray q B ∧
      Steps p.tables e below (T.setTop g) ((B.U.setTop { g with stack := rest }).pushFrame (.throwing q))) := by
  obtain ⟨mk, methM, cM, hnamed, hmethM, -, -, -, -, -, -, hsigM⟩ := Cond.codeWith_spec hcode
  have hstatic : methM.isStatic = true := Cond.static_spec hnamed hmethM hstat
  obtain ⟨kP, hkP, -⟩ := className_of_methodNamed hnamed
  have hinitP : kP.init = .initialized := Cond.initialized_spec (findClass_of_methodNamed hnamed) hkP hinit
  obtain ⟨vm₁, X₁, hstep₁⟩ := X.invokestatic hexec hown hlink hnamed hmethM hstatic hkP hinitP hy (g := g) hg (argsL := argsL) (rest := rest) (hlen _ hsigM) hstack hdg
  rcases hK m meth c ⟨T.setVm vm₁, locs, cells, slots⟩ { g with stack := rest } (.invokestatic index) mk argsL.toArray X₁ hg hsize hdg hW (X₁.named hnamed) (hpre vm₁ X₁.warmed) with ⟨v, B, X', hpost, hsteps⟩ | ⟨q, B, X', hpost, hsteps⟩
  · exact Or.inl ⟨v, vm₁, B, X₁.warmed, X', hpost, fun target h => hstep₁ _ fun acts => by rw [doInvoke_state]; exact hsteps.trans h⟩
  · exact Or.inr ⟨q, vm₁, B, X₁.warmed, X', hpost, hstep₁ _ fun acts => by rw [doInvoke_state]; exact hsteps⟩
theorem vx_callVW (X : Stand p l e R s m args below meth c T locs cells slots) (hexec : p.tables.exec = Jvm.exec) {own C : String} {index : Nat} {y : MethodName} {bytes : ByteArray} {maxL : Nat} {ret : Option FieldType} {hh : List (Nat × Nat × Nat × Nat)}
    (hown : s.vm.findClass own = some m.cls) (hlink : (Cond.methodLink own index y).before args s = true) (hinst : (Cond.instanceMethod y).before args s = true) (hsel : (Cond.selects C y y).before args s = true)
    (hcode : (Cond.codeWith y bytes maxL ret hh).before args s = true) (hy : y.cls ≠ "java/lang/invoke/MethodHandle" ∧ y.cls ≠ "java/lang/invoke/VarHandle")
    {W9 : Nat} {Pre : Pt → Array Value → Prop} {Post : Pt → Array Value → Option Value → Pt → Prop} (hK : Back l R p e below s args y 3 W9 Pre Post)
    {b : Addr} {cellB : Cell} (hcell : T.heap[b]? = some cellB) (hobj : cellB.vm.isStatics = false) (hcls : s.vm.findClass C = some cellB.cls)
    {g : JFrame} (hg : g.method = m) (hsize : g.locals.size = c.maxLocals) {argsL rest : List Value} (hlen : ∀ sig, parseMethodDescriptor y.desc = some sig → argsL.length = sig.parameters.length)
    (hstack : g.stack = argsL.reverse ++ .ref b :: rest) (hW : 2 * g.monitorRoom + (rest.map fun v => v.category).sum ≤ W9) (hdg : decode c.code g.pc = .ok (.invokevirtual index, 3))
    (hpre : ∀ vm₁, s.WarmedH vm₁ → Pre ⟨T.setVm vm₁, locs, cells, slots⟩ (Value.ref b :: argsL).toArray) :
    ∃ (v : Option Value) (vm₁ : Vm) (B : Pt), s.WarmedH vm₁ ∧ Stand p l e R s m args below meth c B.U B.locs B.cells B.slots ∧ Post ⟨T.setVm vm₁, locs, cells, slots⟩ (Value.ref b :: argsL).toArray v B ∧
      ∀ target, Steps p.tables e below (B.U.setTop { g with pc := g.pc + 3, stack := v.toList ++ rest }) target → Steps p.tables e below (T.setTop g) target := by
  obtain ⟨mk, methM, hnamed, hmethM, hstM, habM⟩ := Cond.instanceMethod_spec hinst
  obtain ⟨m8, methM', cM, hn8, hmethM', -, -, -, -, -, -, hsigM⟩ := Cond.codeWith_spec hcode
  cases Option.some.inj (hn8.symm.trans hnamed)
  cases hmethM.symm.trans hmethM'
  obtain ⟨c2, r2, m2, q1, q2, q3, q4, kP, hkP, hkPi⟩ := Cond.selects_spec hsel
  cases hcls.symm.trans q1
  cases (State.methodFound?_of_named hnamed hy).symm.trans q2
  cases hnamed.symm.trans q3
  have hselP : selectMethod e.platform s.vm cellB.cls mk = .method mk := by rw [Launch.admits_selectMethod X.admits]; exact q4
  obtain ⟨vm₁, X₁, hstep₁⟩ := X.invokevirtual hexec hown hlink hnamed hmethM hstM hkP hkPi hy (a := b) (cell := cellB) hcell
    (fun z h => by rw [h] at hobj; cases hobj) hselP hmethM habM hkP hkPi (g := g) hg (argsL := argsL) (rest := rest) (hlen _ hsigM) hstack hdg
  obtain ⟨v, B, X', hpost, hsteps⟩ := hK m meth c ⟨T.setVm vm₁, locs, cells, slots⟩ { g with stack := rest } (.invokevirtual index) mk (Value.ref b :: argsL).toArray X₁ hg hsize hdg hW (X₁.named hnamed) (hpre vm₁ X₁.warmed)
  exact ⟨v, vm₁, B, X₁.warmed, X', hpost, fun target h => hstep₁ _ fun acts => by rw [doInvoke_state]; exact hsteps.trans h⟩
abbrev vx_CVW (R : Room) (s : State) (args : Array Value) (own C : String) (index : Nat) (y : MethodName) (bytes : ByteArray) (maxL : Nat) (ret : Option FieldType) (hh : List (Nat × Nat × Nat × Nat)) (ws : List Cond) (rm : Room) (mc ms n : Nat) : Prop :=
  (rm.cells = mc ∧ rm.slots = ms ∧ rm.frames + 1 ≤ R.frames ∧ 8 + (maxL + 11) + rm.locals ≤ R.locals ∧ (∀ w ∈ ws, ∀ (a' : Array Value) (U : State), s.WarmedH U.vm → w.before a' U = true) ∧ Cond.codeWith y bytes maxL ret hh ∈ ws) ∧
  (Cond.codeWith y bytes maxL ret hh).before args s = true ∧ (Cond.initialized y.cls).before args s = true ∧ (y.cls ≠ "java/lang/invoke/MethodHandle" ∧ y.cls ≠ "java/lang/invoke/VarHandle") ∧
  (∀ sig, parseMethodDescriptor y.desc = some sig → n = sig.parameters.length) ∧ (Cond.methodLink own index y).before args s = true ∧ (Cond.instanceMethod y).before args s = true ∧ (Cond.selects C y y).before args s = true
theorem vx_cwVW {own C : String} {index maxL mc ms : Nat} {y : MethodName} {bytes : ByteArray} {ret : Option FieldType} {hh : List (Nat × Nat × Nat × Nat)} {Ts ws ws' : List Cond} {rm : Room} (n : Nat) (ht : ∀ w ∈ Ts, w.before args s = true) (hT : GoodIn Ts (wsV own index C y ws)) (hw : ws = Cond.codeWith y bytes maxL ret hh :: ws') (hrc : rm.cells = mc) (hrs : rm.slots = ms)
    (hd : y.cls = C ∧ y.cls ≠ "java/lang/invoke/MethodHandle" ∧ y.cls ≠ "java/lang/invoke/VarHandle" ∧ (parseMethodDescriptor y.desc).map (fun d => d.parameters.length) = some n) (hR : rm.frames + 1 ≤ R.frames ∧ 8 + (maxL + 11) + rm.locals ≤ R.locals) :
    vx_CVW R s args own C index y bytes maxL ret hh ws rm mc ms n := by
  obtain ⟨hC, hd⟩ := hd
  subst hC
  have ok : ∀ w ∈ wsV own index y.cls y ws, w.before args s = true := fun w h => ht w (hT w h).1
  have hG : GoodIn Ts ws := fun w h => hT w (by unfold wsV; exact List.mem_append_right _ h)
  have hc : Cond.codeWith y bytes maxL ret hh ∈ ws := by rw [hw]; exact List.mem_cons_self
  refine ⟨⟨hrc, hrs, hR.1, hR.2, pay_in ht hG, hc⟩, ht _ (hG _ hc).1, ok _ (by simp [wsV]), ⟨hd.1, hd.2.1⟩, fun sig h => ?_, ok _ (by simp [wsV]), ok _ (by simp [wsV]), ok _ (by simp [wsV])⟩
  have h2 := hd.2.2
  rw [h] at h2
  exact (Option.some.inj h2).symm
theorem vx_runVW {y : MethodName} {bytes cc : ByteArray} {maxL nL mc ms n index : Nat} {ret : Option FieldType} {hh : List (Nat × Nat × Nat × Nat)} {ws : List Cond} {rm : Room} {Pc : Array Value → State → Prop} {Qc : Array Value → State → Outcome → State → Prop} {free : Addr → Prop} {Ts : List Cond} {own C : String} {b : Addr} {As rest : List Value} {g : JFrame}
    (S : CallFix p m c cc nL s args Ts own) (hM : Met l y ws rm Pc Qc mc ms free) (cw : vx_CVW R s args own C index y bytes maxL ret hh ws rm mc ms n) (hp : PreV s H C b Pc As)
    (hg : g.method = m) (hn : As.length = n) (hsize : g.locals.size = nL) (hstack : g.stack = As.reverse ++ .ref b :: rest) (hW : 2 * g.monitorRoom + (rest.map fun v => v.category).sum ≤ 8) (hdg : decode cc g.pc = .ok (.invokevirtual index, 3)) (hf : cells + mc ≤ R.cells ∧ slots + ms ≤ R.slots) :
    va_Run p l e R s m args below meth c H locs cells slots mc ms g rest (Qc (Value.ref b :: As).toArray) free := by
  obtain ⟨⟨hrc, hrs, hfr, hlo, hws, hcw⟩, hcode, hini, hy, hlen, hl, hin, hse⟩ := cw
  have hK : Back l R p e below s args y 3 8 (PreOf R mc ms Pc) (PostOf Qc mc ms free) := va_backW (hh := hh) (bytes := bytes) (maxL := maxL) (ret := ret) hM hp.1 hrc hrs hfr hlo hws hcw (fun a' U hW => word_at hW (Or.inl (by first | rfl | simp [Cond.onTables, Cond.keeps, Cond.steady])) hini)
  obtain ⟨hx, hb, hml, ho, -⟩ := S
  obtain ⟨-, ⟨cellB, hcB, hoB, hclB⟩, hPc⟩ := hp
  intro T hT X
  obtain ⟨v, vm₁, ⟨U', l2, c2, s2⟩, hW₁, X', ⟨g', mk, t, L, e1, e2, hq, h1, hL, h2, h3⟩, st⟩ := vx_callVW X hx (C := C) (hh := hh) (bytes := bytes) (maxL := maxL) (ret := ret) ho hl hin hse hcode hy hK (by rw [hT]; exact hcB) hoB hclB hg (hsize.trans hml.symm) (argsL := As) (rest := rest) (fun sig h => hn.trans (hlen sig h)) hstack hW (by rw [hb]; exact hdg)
    (fun vm₁ hW₁ => ⟨hf.1, hf.2, hPc (T.setVm vm₁) hT hW₁⟩)
  dsimp only [Pt.U, Pt.locs, Pt.cells, Pt.slots] at X' e1 e2 h1 h2 h3 st
  subst h1; subst h2; subst h3
  exact ⟨v, (T.setVm vm₁).calling g' mk (Value.ref b :: As).toArray, t, U', L, hT, X', hL, e1, e2, hq, st⟩
section
variable {y : MethodName} {bytes cc : ByteArray} {maxL nL mc ms n index : Nat} {ret : Option FieldType} {ws : List Cond} {rm : Room} {Pc : Array Value → State → Prop} {Qc : Array Value → State → Outcome → State → Prop} {XC : String → State → State → Prop} {free : Addr → Prop} {Ts : List Cond} {own C : String} {b : Addr} {As rest : List Value} {g : JFrame}
theorem vx_runVX {hh : List (Nat × Nat × Nat × Nat)} (S : CallFix p m c cc nL s args Ts own) (hM : vx_Met l y ws rm Pc Qc XC mc ms free) (cw : vx_CVW R s args own C index y bytes maxL ret hh ws rm mc ms n) (hp : PreV s H C b Pc As)
    (hg : g.method = m) (hn : As.length = n) (hsize : g.locals.size = nL) (hstack : g.stack = As.reverse ++ .ref b :: rest) (hW : 2 * g.monitorRoom + (rest.map fun v => v.category).sum ≤ 8) (hdg : decode cc g.pc = .ok (.invokevirtual index, 3)) (hf : cells + mc ≤ R.cells ∧ slots + ms ≤ R.slots) :
    vx_Run p l e R s m args below meth c H locs cells slots mc ms g rest (Qc (Value.ref b :: As).toArray) XC free := by
  obtain ⟨⟨hrc, hrs, hfr, hlo, hws, hcw⟩, hcode, hini, hy, hlen, hl, hin, hse⟩ := cw
  have hK : vx_Back l R p e below s args y 3 8 (PreOf R mc ms Pc) (PostOf Qc mc ms free) (vx_Post XC mc ms free) := vx_backW (hh := hh) (bytes := bytes) (maxL := maxL) (ret := ret) hM hp.1 hrc hrs hfr hlo hws hcw (fun a' U hW => word_at hW (Or.inl (by first | rfl | simp [Cond.onTables, Cond.keeps, Cond.steady])) hini)
  obtain ⟨hx, hb, hml, ho, -⟩ := S
  obtain ⟨-, ⟨cellB, hcB, hoB, hclB⟩, hPc⟩ := hp
  intro T hT X
  rcases vx_callVX X hx (C := C) (hh := hh) (bytes := bytes) (maxL := maxL) (ret := ret) ho hl hin hse hcode hy hK (by rw [hT]; exact hcB) hoB hclB hg (hsize.trans hml.symm) (argsL := As) (rest := rest) (fun sig h => hn.trans (hlen sig h)) hstack hW (by rw [hb]; exact hdg)
    (fun vm₁ hW₁ => ⟨hf.1, hf.2, hPc (T.setVm vm₁) hT hW₁⟩) with ⟨v, vm₁, ⟨U', l2, c2, s2⟩, hW₁, X', ⟨g', mk, t, L, e1, e2, hq, h1, hL, h2, h3⟩, st⟩ | ⟨q, vm₁, ⟨U', l2, c2, s2⟩, hW₁, X', ⟨g', mk, t, L, E, ce, e1, e2, hq, hce, hcv, hcl, h1, hL, h2, h3⟩, st⟩
  · dsimp only [Pt.U, Pt.locs, Pt.cells, Pt.slots] at X' e1 e2 h1 h2 h3 st
    subst h1; subst h2; subst h3
    exact Or.inl ⟨v, (T.setVm vm₁).calling g' mk (Value.ref b :: As).toArray, t, U', L, hT, X', hL, e1, e2, hq, st⟩
  · dsimp only [Pt.U, Pt.locs, Pt.cells, Pt.slots] at X' e1 e2 h1 h2 h3 st hcl
    subst h1; subst h2; subst h3
    exact Or.inr ⟨q, (T.setVm vm₁).calling g' mk (Value.ref b :: As).toArray, t, U', L, E, ce, hT, X', hL, e1, e2, hq, hce, hcv, vx_cls hW₁ hcl, st⟩
theorem vx_runSX {hh : List (Nat × Nat × Nat × Nat)} (S : CallFix p m c cc nL s args Ts own) (hM : vx_Met l y ws rm Pc Qc XC mc ms free) (cw : vx_CSW R s args own index y bytes maxL ret hh ws rm mc ms n) (hp : PreS s H Pc As)
    (hg : g.method = m) (hn : As.length = n) (hsize : g.locals.size = nL) (hstack : g.stack = As.reverse ++ rest) (hW : 2 * g.monitorRoom + (rest.map fun v => v.category).sum ≤ 8) (hdg : decode cc g.pc = .ok (.invokestatic index, 3)) (hf : cells + mc ≤ R.cells ∧ slots + ms ≤ R.slots) :
    vx_Run p l e R s m args below meth c H locs cells slots mc ms g rest (Qc As.toArray) XC free := by
  obtain ⟨⟨hrc, hrs, hfr, hlo, hws, hcw⟩, hcode, hini, hy, hlen, hl, hstt⟩ := cw
  have hK : vx_Back l R p e below s args y 3 8 (PreOf R mc ms Pc) (PostOf Qc mc ms free) (vx_Post XC mc ms free) := vx_backW (hh := hh) (bytes := bytes) (maxL := maxL) (ret := ret) hM hp.1 hrc hrs hfr hlo hws hcw (fun a' U hW => word_at hW (Or.inl (by first | rfl | simp [Cond.onTables, Cond.keeps, Cond.steady])) hini)
  obtain ⟨hx, hb, hml, ho, -⟩ := S
  intro T hT X
  rcases vx_callSX X hx (hh := hh) (bytes := bytes) (maxL := maxL) (ret := ret) ho hl hstt hini hcode hy hK hg (hsize.trans hml.symm) (argsL := As) (rest := rest) (fun sig h => hn.trans (hlen sig h)) hstack hW (by rw [hb]; exact hdg)
    (fun vm₁ hW₁ => ⟨hf.1, hf.2, hp.2 (T.setVm vm₁) hT hW₁⟩) with ⟨v, vm₁, ⟨U', l2, c2, s2⟩, hW₁, X', ⟨g', mk, t, L, e1, e2, hq, h1, hL, h2, h3⟩, st⟩ | ⟨q, vm₁, ⟨U', l2, c2, s2⟩, hW₁, X', ⟨g', mk, t, L, E, ce, e1, e2, hq, hce, hcv, hcl, h1, hL, h2, h3⟩, st⟩
  · dsimp only [Pt.U, Pt.locs, Pt.cells, Pt.slots] at X' e1 e2 h1 h2 h3 st
    subst h1; subst h2; subst h3
    exact Or.inl ⟨v, (T.setVm vm₁).calling g' mk As.toArray, t, U', L, hT, X', hL, e1, e2, hq, st⟩
  · dsimp only [Pt.U, Pt.locs, Pt.cells, Pt.slots] at X' e1 e2 h1 h2 h3 st hcl
    subst h1; subst h2; subst h3
    exact Or.inr ⟨q, (T.setVm vm₁).calling g' mk As.toArray, t, U', L, E, ce, hT, X', hL, e1, e2, hq, hce, hcv, vx_cls hW₁ hcl, st⟩
end
end VXH
theorem vx_ofWH {l : Launch} {y : MethodName} {ws ws' : List Cond} {rm : Room} {Pc : Array Value → State → Prop} {Qc : Array Value → State → Outcome → State → Prop} {XC : String → State → State → Prop} {mc ms : Nat} {free : Addr → Prop} {cc : ByteArray} {maxL : Nat} {ret : Option FieldType} {hh : List (Nat × Nat × Nat × Nat)}
    (hy : plainName y.cls = true) (hw : ws = Cond.codeWith y cc maxL ret hh :: ws')
    (body : ∀ p e s m args below meth c s₁, BodyLoose p l y (headSpec ws rm) cc maxL ret e s m args below meth c s₁ → c.maxLocals = maxL → Pc args s →
      W p l e (headSpec ws rm).room s m args below meth c s.heap [] 0 0 (vx_MQ below Qc XC args s mc ms free) (entryFrame m args maxL)) : vx_Met l y ws rm Pc Qc XC mc ms free := by
  refine MetFree.of_bodyS (code := cc) (maxLocals := maxL) (ret := ret) hy ?_ ?_
  · intro args s m h hn
    obtain ⟨m9, meth, c, hn9, h1, h2, h3, h4, -, h5, h6, -⟩ := Cond.codeWith_spec (atoms_spec (ws := ws) h _ (by rw [hw]; exact List.mem_cons_self))
    cases hn.symm.trans hn9
    exact ⟨meth, c, h1, h2, h3, h4, h5, h6⟩
  · intro p e s m args below meth c s₁ B hml hP _
    have hh0 : s₁.heap = s.heap := by rw [B.state]; rfl
    obtain ⟨t, a1, o, b1, b2, b3⟩ := body p e s m args below meth c s₁ B hml hP s₁ hh0 (Stand.of_body B)
    exact ⟨t, o, a1, b1, b2, b3⟩
/-! ===== END ===== -/
section
variable {p : Program} {l : Launch} {e : Env} {R : Room} {s : State} {m : MethodId} {args : Array Value} {below : List Frame} {meth : Method} {c : Code} {H : Heap} {locs : List Loc} {cells slots : Nat}
/-- a frame seen from a rebased start, seen from the first start again -/
theorem vx_back9 {T S : State} {R' : Room} {k n : Nat} (X : Stand p l e R s m args below meth c T locs cells slots) (Y : Stand p l e R' ((T.setVm s.vm).setFrames (.invoking m args :: below)) m args below meth c T [] 0 0) (Z : Stand p l e R' ((T.setVm s.vm).setFrames (.invoking m args :: below)) m args below meth c S [] k n) :
    Stand p l e R s m args below meth c S locs (cells + k) (slots + n) := by
  have hW0 : s.WarmedH ((T.setVm s.vm).setFrames (.invoking m args :: below)).vm := State.WarmedH.refl s
  refine { admits := X.admits, cas := X.cas, clock := X.clock, frames := X.frames, room := X.room, hears := X.hears, method := X.method, code := X.code, here := Z.here, tail := Z.tail, warmed := State.WarmedH.trans hW0 Z.warmed, limits := Z.limits.trans (Y.limits.symm.trans X.limits), bytes := Z.bytes.trans (Y.bytes.symm.trans X.bytes), same := ?_ }
  obtain ⟨e1, e2⟩ := Z.same
  rw [State.setFrames_setFrames] at e1
  have h2 : (T.setVm s.vm).sameButNew (S.setVm s.vm) [] k n := ⟨e1, e2⟩
  have h3 := X.same.trans h2
  rw [List.append_nil] at h3
  exact h3
end
/-! ===== BEGIN an exception as an object: made, kept, thrown later (no traces kept) ===== -/
section VXK
variable {p : Program} {l : Launch} {e : Env} {R : Room} {s : State} {m₀ : MethodId} {args : Array Value} {below : List Frame} {meth : Method} {c : Code} {W : State} {locs : List Loc} {cells slots : Nat}
set_option maxHeartbeats 1000000 in
theorem vx_ctorMadeS (X : Stand p l e R s m₀ args below meth c W locs cells slots) (hexec : p.tables.exec = Jvm.exec) (htr : e.platform.stackTraces = false) {own cls : String} {names : List String} {ic : Nat}
    (hown : s.vm.findClass own = some m₀.cls) (hcls : Bundle.fit cls = true) (hnames : ∀ n ∈ names, Bundle.fit n = true)
    (h : ∀ a ∈ Bundle.ownAtoms own ic cls names, a.before args s = true)
    (hlocs : ∀ x ∈ locs, ∀ cell, s.heap[x.base]? = some cell → cell.vm.isStatics = false)
    {a : Addr} {cX : ClassId} {kX : Class} (hfoundX : s.vm.findClass cls = some cX) (hkX : s.vm.classes[cX]? = some kX) (hcell : W.heap[a]? = some (freshCell cX kX)) (hnew : s.heap.size ≤ a)
    {msg : Value} (hmsg : msg.isRef = true)
    {g : JFrame} (hg : g.method = m₀) (hsize : g.locals.size = c.maxLocals) {rest : List Value} (hstack : g.stack = msg :: .ref a :: .ref a :: rest)
    (hd6 : decode c.code g.pc = .ok (.invokespecial ic, 3))
    (hRframes : names.length + 3 < R.frames) (hRlocals : 2 * g.monitorRoom + ((Value.ref a :: rest).map fun v => v.category).sum + (13 * (names.length + 1) + 42) ≤ R.locals) :
    ∃ (V : State) (ce : Cell) (L : List Loc), Stand p l e R s m₀ args below meth c (V.setCell a ce) (locs ++ L) cells slots ∧ (∀ y ∈ L, y.base = a) ∧ a < V.heap.size ∧ ce.cls = cX ∧ ce.vm = .none ∧
      ∀ target, Steps p.tables e below ((V.setCell a ce).setTop { g with stack := .ref a :: rest, pc := g.pc + 3 }) target → Steps p.tables e below (W.setTop g) target := by
  have howns : e.platform.frameOwnsMonitors = true := by rw [X.admits.platform]
  have hfin : e.platform.finalization = false := by rw [X.admits.platform]
  have hpl : e.platform.magicAccessors = ({} : Platform).magicAccessors := by rw [X.admits.platform]
  have a' : ∀ x, x ∈ Bundle.ownAtoms own ic cls names → x.holds args s none s [] = true := fun x hx => h x hx
  obtain ⟨T, Z0, L, -, Y⟩ := ThrowableC.of_atoms (args := args) howns hfin hpl (fun x hx => h x (by simp [Bundle.ownAtoms, hx]))
  obtain ⟨Z, M, LZ, LM, hnZ⟩ := Init0T.ofS_atoms (args := args) hpl L Y (fun x hx => h x (by simp [Bundle.ownAtoms, hx]))
  obtain ⟨P1, Ps, hlen, L1, hL, hP1m, hlink1, hlink⟩ := Bundle.chainS (args := args) hpl hnZ names cls hcls hnames (fun x hx => h x (by simp [Bundle.ownAtoms, hx]))
  have hfound : s.vm.findClass cls = some P1.m.cls := findClass_of_methodNamed hP1m
  cases Option.some.inj (hfoundX.symm.trans hfound)
  obtain ⟨c1, kX', hc1, hk, hord, -, -, hn6⟩ := Cond.instantiable_spec (a' (.instantiable cls 6) (by simp [Bundle.ownAtoms]))
  cases Option.some.inj (hc1.symm.trans hfound)
  cases Option.some.inj (hkX.symm.trans hk)
  have hsel0 : selectMethod e.platform s.vm P1.m.cls T.fill0 = .method T.fill0 := by
    obtain ⟨c2, r2, m2, q1, q2, q3, q4, -⟩ := Cond.selects_spec (a' (.selects cls Bundle.tFill0 Bundle.tFill0) (by simp [Bundle.ownAtoms]))
    cases Option.some.inj (q1.symm.trans hfound)
    cases Option.some.inj (q2.symm.trans (State.methodFound?_of_named Y.fill0 (by decide)))
    cases Option.some.inj (q3.symm.trans Y.fill0)
    rw [Launch.admits_selectMethod X.admits]; exact q4
  have hselF : selectMethod e.platform s.vm P1.m.cls T.fill = .method T.fill := by
    obtain ⟨c2, r2, m2, q1, q2, q3, q4, -⟩ := Cond.selects_spec (a' (.selects cls Bundle.tFill Bundle.tFill) (by simp [Bundle.ownAtoms]))
    cases Option.some.inj (q1.symm.trans hfound)
    cases Option.some.inj (q2.symm.trans (State.methodFound?_of_named Y.fill (by decide)))
    cases Option.some.inj (q3.symm.trans Y.fill)
    rw [Launch.admits_selectMethod X.admits]; exact q4
  obtain ⟨cellS0, hcS0, hiss⟩ := Y.statics
  obtain ⟨u0, hu0⟩ := Cond.staticRefV Y.unassigned L.unassignedStatic L.statics hcS0 hiss (a' (.isRef (.static Bundle.tN "UNASSIGNED_STACK" Bundle.steD)) (by simp [Bundle.ownAtoms]))
  obtain ⟨sen, hsen⟩ := Cond.staticRefV Y.sentinel L.sentinelStatic L.statics hcS0 hiss (a' (.isRef (.static Bundle.tN "SUPPRESSED_SENTINEL" Bundle.listD)) (by simp [Bundle.ownAtoms]))
  obtain ⟨ci198, i198, fB, hk198, hg198, ha198, hsB, -, hnB, htB, hffB⟩ := Cond.ownField (t := .object "java/lang/Object") Y.found L.cls (by decide +kernel) (a' (.fieldLink Bundle.tN 198 Bundle.tN "backtrace" "Ljava/lang/Object;") (by simp [Bundle.ownAtoms])) (a' (.lays Bundle.tN Bundle.tN "backtrace" "Ljava/lang/Object;") (by simp [Bundle.ownAtoms])) e.platform hpl
  obtain ⟨cellS, hcS', heS, -, hkeep⟩ := X.same.2.2.2.2.2 T.aS cellS0 hcS0
  have hcellS : W.heap[T.aS]? = some cellS := hcS'
  have hout' : ∀ i, (⟨T.aS, i⟩ : Loc) ∉ locs := fun i hmem => by
    have := hlocs _ hmem cellS0 hcS0
    rw [hiss] at this; cases this
  have hknownS : cellS.vm ≠ .unknown := by
    rw [heS]; intro hu
    rw [show cellS0.vm = .unknown from hu] at hiss
    cases hiss
  have hneS : T.aS ≠ a := Nat.ne_of_lt (Nat.lt_of_lt_of_le (Array.getElem?_eq_some_iff.mp hcS0).1 hnew)
  obtain ⟨iM, hffM⟩ := Y.msg
  obtain ⟨tyC, dC, hdC, hdnC⟩ := Cond.laysAt hfound hk Y.cause (a' (.lays cls Bundle.tN "cause" "Ljava/lang/Throwable;") (by simp [Bundle.ownAtoms]))
  obtain ⟨tyS, dS, hdS, hdnS⟩ := Cond.laysAt hfound hk Y.stack (a' (.lays cls Bundle.tN "stackTrace" Bundle.steD) (by simp [Bundle.ownAtoms]))
  obtain ⟨tyP, dP, hdP, hdnP⟩ := Cond.laysAt hfound hk Y.supp (a' (.lays cls Bundle.tN "suppressedExceptions" Bundle.listD) (by simp [Bundle.ownAtoms]))
  obtain ⟨tyM, dM, hdM, hdnM⟩ := Cond.laysAt hfound hk hffM (a' (.lays cls Bundle.tN "detailMessage" "Ljava/lang/String;") (by simp [Bundle.ownAtoms]))
  obtain ⟨tyB, dB, hdB, hdnB⟩ := Cond.laysAt hfound hk hffB (a' (.lays cls Bundle.tN "backtrace" "Ljava/lang/Object;") (by simp [Bundle.ownAtoms]))
  have bC := Cond.laysApart hdB hdC hdnB hdnC (by rw [hnB, Y.causeName]; decide)
  have bS := Cond.laysApart hdB hdS hdnB hdnS (by rw [hnB, Y.stackName]; decide)
  have bP := Cond.laysApart hdB hdP hdnB hdnP (by rw [hnB, Y.suppName]; decide)
  have hskip : SkipFacts T e.platform s (fun u => u) u0 ((preparedCellV T.toThrowableT (freshCell P1.m.cls kX) a u0 sen).withEntry W.cur) :=
    ⟨{ ci198 := ci198, i198 := i198, fBack := fB }, ⟨hk198, hg198, ha198, hsB⟩, by
      have := fresh_default (c := P1.m.cls) tyB
      rw [htB] at this
      simpa [preparedCellV, Cell.setSlot, Cell.withEntry, Array.getElem?_setIfInBounds, bC, bS, bP, bC.symm, bS.symm, bP.symm, defaultValue] using this, fun _ _ => rfl⟩
  obtain ⟨tm, methC, cdC, kC, vm₁, hnC, -, -, -, -, -, -, -, hW₁, st1⟩ := Steps.initColdS (tb := p.tables) (e := e) (below := below) (s := s) (U := W) X.here hexec X.warmed hpl hown (t := Bundle.initS cls) rfl rfl (Bundle.fit_spec hcls).2
    (a' (.methodLink own ic (Bundle.initS cls)) (by simp [Bundle.ownAtoms])) (h (.instanceMethod (Bundle.initS cls)) (by cases names <;> simp [Bundle.ownAtoms, Bundle.chainSAtoms, Bundle.passSAtoms])) (bytes := Bundle.six) (maxL := 2) (h (.code (Bundle.initS cls) Bundle.six 2 none) (by cases names <;> simp [Bundle.ownAtoms, Bundle.chainSAtoms, Bundle.passSAtoms]))
    (f := g) hg (a := a) (msg := msg) (rest := .ref a :: rest) hstack hd6
  cases Option.some.inj (hnC.symm.trans hP1m)
  have X₁ := X.noted hW₁
  obtain ⟨vm₂, X₂, st2⟩ := X₁.ctorMessageOffV hexec (g := { g with stack := .ref a :: rest }) hg hsize T L Z LZ M LM (P1 :: Ps)
    (fun P hP => by rcases List.mem_cons.mp hP with rfl | hP; exact L1; exact hL P hP) ⟨hlink1, hlink⟩ (u0 := u0) (sen := sen) (self := a) hmsg (cell := freshCell P1.m.cls kX) (cellS := cellS)
    hcell (fun _ => by simp) (by simp) rfl rfl hsel0 hselF hcellS hneS hknownS (by rw [hkeep _ (hout' _)]; exact hu0) (by rw [hkeep _ (hout' _)]; exact hsen)
    (Takes.of_laid hk hord tyC (by rw [Y.causeType]; rfl)) (Takes.of_laid hk hord tyS (by rw [Y.stackType]; exact fits_refV_array _ u0)) (Takes.of_laid hk hord tyP (by rw [Y.suppType]; exact fits_refV_object _ sen))
    (Takes.of_laid hk hord tyM (by rw [Y.msgType]; exact fits_refV_object _ ⟨msg, hmsg⟩)) Y.objLocals hskip htr [] hd6
    (by simp only [List.length_cons, hlen]; omega) (by simp only [List.length_cons, hlen]; exact hRlocals)
  have hlt : a < ((W.setVm vm₁).setVm vm₂).heap.size := (Array.getElem?_eq_some_iff.mp hcell).1
  refine ⟨(W.setVm vm₁).setVm vm₂, _, _, X₂, fun y hy => ?_, hlt, rfl, rfl, fun target hwalk => st1 _ (fun acts => ?_)⟩
  · simp only [List.mem_cons, List.not_mem_nil, or_false] at hy
    rcases hy with rfl | rfl | rfl | rfl | rfl <;> rfl
  · rw [doInvoke_state]
    exact st2 _ hwalk
set_option maxHeartbeats 1000000 in
theorem vx_ctorMade0 (X : Stand p l e R s m₀ args below meth c W locs cells slots) (hexec : p.tables.exec = Jvm.exec) (htr : e.platform.stackTraces = false) {own cls : String} {names : List String} {ic : Nat}
    (hown : s.vm.findClass own = some m₀.cls) (hcls : Bundle.fit cls = true) (hnames : ∀ n ∈ names, Bundle.fit n = true)
    (h : ∀ a ∈ Bundle.ownAtoms0 own ic cls names, a.before args s = true)
    (hlocs : ∀ x ∈ locs, ∀ cell, s.heap[x.base]? = some cell → cell.vm.isStatics = false)
    {a : Addr} {cX : ClassId} {kX : Class} (hfoundX : s.vm.findClass cls = some cX) (hkX : s.vm.classes[cX]? = some kX) (hcell : W.heap[a]? = some (freshCell cX kX)) (hnew : s.heap.size ≤ a)
    {g : JFrame} (hg : g.method = m₀) (hsize : g.locals.size = c.maxLocals) {rest : List Value} (hstack : g.stack = .ref a :: .ref a :: rest)
    (hd6 : decode c.code g.pc = .ok (.invokespecial ic, 3))
    (hRframes : names.length + 3 < R.frames) (hRlocals : 2 * g.monitorRoom + ((Value.ref a :: rest).map fun v => v.category).sum + (13 * (names.length + 1) + 41) ≤ R.locals) :
    ∃ (V : State) (ce : Cell) (L : List Loc), Stand p l e R s m₀ args below meth c (V.setCell a ce) (locs ++ L) cells slots ∧ (∀ y ∈ L, y.base = a) ∧ a < V.heap.size ∧ ce.cls = cX ∧ ce.vm = .none ∧
      ∀ target, Steps p.tables e below ((V.setCell a ce).setTop { g with stack := .ref a :: rest, pc := g.pc + 3 }) target → Steps p.tables e below (W.setTop g) target := by
  have howns : e.platform.frameOwnsMonitors = true := by rw [X.admits.platform]
  have hfin : e.platform.finalization = false := by rw [X.admits.platform]
  have hpl : e.platform.magicAccessors = ({} : Platform).magicAccessors := by rw [X.admits.platform]
  have a' : ∀ x, x ∈ Bundle.ownAtoms0 own ic cls names → x.holds args s none s [] = true := fun x hx => h x hx
  obtain ⟨T, Z, L, LZ, Y⟩ := ThrowableC.of_atoms (args := args) howns hfin hpl (fun x hx => h x (by simp [Bundle.ownAtoms0, hx]))
  obtain ⟨P1, Ps, hlen, L1, hL, hP1m, hlink1, hlink⟩ := Bundle.chain0 (args := args) hpl Y.init0 names cls hcls hnames (fun x hx => h x (by simp [Bundle.ownAtoms0, hx]))
  have hfound : s.vm.findClass cls = some P1.m.cls := findClass_of_methodNamed hP1m
  cases Option.some.inj (hfoundX.symm.trans hfound)
  obtain ⟨c1, kX', hc1, hk, hord, -, -, hn6⟩ := Cond.instantiable_spec (a' (.instantiable cls 6) (by simp [Bundle.ownAtoms0]))
  cases Option.some.inj (hc1.symm.trans hfound)
  cases Option.some.inj (hkX.symm.trans hk)
  have hsel0 : selectMethod e.platform s.vm P1.m.cls T.fill0 = .method T.fill0 := by
    obtain ⟨c2, r2, m2, q1, q2, q3, q4, -⟩ := Cond.selects_spec (a' (.selects cls Bundle.tFill0 Bundle.tFill0) (by simp [Bundle.ownAtoms0]))
    cases Option.some.inj (q1.symm.trans hfound)
    cases Option.some.inj (q2.symm.trans (State.methodFound?_of_named Y.fill0 (by decide)))
    cases Option.some.inj (q3.symm.trans Y.fill0)
    rw [Launch.admits_selectMethod X.admits]; exact q4
  have hselF : selectMethod e.platform s.vm P1.m.cls T.fill = .method T.fill := by
    obtain ⟨c2, r2, m2, q1, q2, q3, q4, -⟩ := Cond.selects_spec (a' (.selects cls Bundle.tFill Bundle.tFill) (by simp [Bundle.ownAtoms0]))
    cases Option.some.inj (q1.symm.trans hfound)
    cases Option.some.inj (q2.symm.trans (State.methodFound?_of_named Y.fill (by decide)))
    cases Option.some.inj (q3.symm.trans Y.fill)
    rw [Launch.admits_selectMethod X.admits]; exact q4
  obtain ⟨cellS0, hcS0, hiss⟩ := Y.statics
  obtain ⟨u0, hu0⟩ := Cond.staticRefV Y.unassigned L.unassignedStatic L.statics hcS0 hiss (a' (.isRef (.static Bundle.tN "UNASSIGNED_STACK" Bundle.steD)) (by simp [Bundle.ownAtoms0]))
  obtain ⟨sen, hsen⟩ := Cond.staticRefV Y.sentinel L.sentinelStatic L.statics hcS0 hiss (a' (.isRef (.static Bundle.tN "SUPPRESSED_SENTINEL" Bundle.listD)) (by simp [Bundle.ownAtoms0]))
  obtain ⟨ci198, i198, fB, hk198, hg198, ha198, hsB, -, hnB, htB, hffB⟩ := Cond.ownField (t := .object "java/lang/Object") Y.found L.cls (by decide +kernel) (a' (.fieldLink Bundle.tN 198 Bundle.tN "backtrace" "Ljava/lang/Object;") (by simp [Bundle.ownAtoms0])) (a' (.lays Bundle.tN Bundle.tN "backtrace" "Ljava/lang/Object;") (by simp [Bundle.ownAtoms0])) e.platform hpl
  obtain ⟨cellS, hcS', heS, -, hkeep⟩ := X.same.2.2.2.2.2 T.aS cellS0 hcS0
  have hcellS : W.heap[T.aS]? = some cellS := hcS'
  have hout' : ∀ i, (⟨T.aS, i⟩ : Loc) ∉ locs := fun i hmem => by
    have := hlocs _ hmem cellS0 hcS0
    rw [hiss] at this; cases this
  have hknownS : cellS.vm ≠ .unknown := by
    rw [heS]; intro hu
    rw [show cellS0.vm = .unknown from hu] at hiss
    cases hiss
  have hneS : T.aS ≠ a := Nat.ne_of_lt (Nat.lt_of_lt_of_le (Array.getElem?_eq_some_iff.mp hcS0).1 hnew)
  obtain ⟨iM, hffM⟩ := Y.msg
  obtain ⟨tyC, dC, hdC, hdnC⟩ := Cond.laysAt hfound hk Y.cause (a' (.lays cls Bundle.tN "cause" "Ljava/lang/Throwable;") (by simp [Bundle.ownAtoms0]))
  obtain ⟨tyS, dS, hdS, hdnS⟩ := Cond.laysAt hfound hk Y.stack (a' (.lays cls Bundle.tN "stackTrace" Bundle.steD) (by simp [Bundle.ownAtoms0]))
  obtain ⟨tyP, dP, hdP, hdnP⟩ := Cond.laysAt hfound hk Y.supp (a' (.lays cls Bundle.tN "suppressedExceptions" Bundle.listD) (by simp [Bundle.ownAtoms0]))
  obtain ⟨tyM, dM, hdM, hdnM⟩ := Cond.laysAt hfound hk hffM (a' (.lays cls Bundle.tN "detailMessage" "Ljava/lang/String;") (by simp [Bundle.ownAtoms0]))
  obtain ⟨tyB, dB, hdB, hdnB⟩ := Cond.laysAt hfound hk hffB (a' (.lays cls Bundle.tN "backtrace" "Ljava/lang/Object;") (by simp [Bundle.ownAtoms0]))
  have bC := Cond.laysApart hdB hdC hdnB hdnC (by rw [hnB, Y.causeName]; decide)
  have bS := Cond.laysApart hdB hdS hdnB hdnS (by rw [hnB, Y.stackName]; decide)
  have bP := Cond.laysApart hdB hdP hdnB hdnP (by rw [hnB, Y.suppName]; decide)
  have hskip : SkipFacts T e.platform s (fun u => u) u0 ((preparedCellV T.toThrowableT (freshCell P1.m.cls kX) a u0 sen).withEntry W.cur) :=
    ⟨{ ci198 := ci198, i198 := i198, fBack := fB }, ⟨hk198, hg198, ha198, hsB⟩, by
      have := fresh_default (c := P1.m.cls) tyB
      rw [htB] at this
      simpa [preparedCellV, Cell.setSlot, Cell.withEntry, Array.getElem?_setIfInBounds, bC, bS, bP, bC.symm, bS.symm, bP.symm, defaultValue] using this, fun _ _ => rfl⟩
  obtain ⟨tm, methC, cdC, kC, vm₁, hnC, -, -, -, -, -, -, -, hW₁, st1⟩ := Steps.initCold (tb := p.tables) (e := e) (below := below) (s := s) (U := W) X.here hexec X.warmed hpl hown (t := Bundle.init0 cls) rfl rfl (Bundle.fit_spec hcls).2
    (a' (.methodLink own ic (Bundle.init0 cls)) (by simp [Bundle.ownAtoms0])) (h (.instanceMethod (Bundle.init0 cls)) (by cases names <;> simp [Bundle.ownAtoms0, Bundle.chain0Atoms, Bundle.passAtoms])) (bytes := Bundle.five) (maxL := 1) (h (.code (Bundle.init0 cls) Bundle.five 1 none) (by cases names <;> simp [Bundle.ownAtoms0, Bundle.chain0Atoms, Bundle.passAtoms]))
    (f := g) hg (a := a) (rest := .ref a :: rest) hstack hd6
  cases Option.some.inj (hnC.symm.trans hP1m)
  have X₁ := X.noted hW₁
  obtain ⟨vm₂, X₂, st2⟩ := X₁.ctorPlainOffV hexec (g := { g with stack := .ref a :: rest }) hg hsize T L Z LZ (P1 :: Ps)
    (fun P hP => by rcases List.mem_cons.mp hP with rfl | hP; exact L1; exact hL P hP) ⟨hlink1, hlink⟩ (u0 := u0) (sen := sen) (self := a) (cell := freshCell P1.m.cls kX) (cellS := cellS)
    hcell (fun _ => by simp) (by simp) rfl rfl hsel0 hselF hcellS hneS hknownS (by rw [hkeep _ (hout' _)]; exact hu0) (by rw [hkeep _ (hout' _)]; exact hsen)
    (Takes.of_laid hk hord tyC (by rw [Y.causeType]; rfl)) (Takes.of_laid hk hord tyS (by rw [Y.stackType]; exact fits_refV_array _ u0)) (Takes.of_laid hk hord tyP (by rw [Y.suppType]; exact fits_refV_object _ sen)) Y.objLocals hskip htr [] hd6
    (by simp only [List.length_cons, hlen]; omega) (by simp only [List.length_cons, hlen]; exact hRlocals)
  have hlt : a < ((W.setVm vm₁).setVm vm₂).heap.size := (Array.getElem?_eq_some_iff.mp hcell).1
  refine ⟨(W.setVm vm₁).setVm vm₂, _, _, X₂, fun y hy => ?_, hlt, rfl, rfl, fun target hwalk => st1 _ (fun acts => ?_)⟩
  · simp only [List.mem_cons, List.not_mem_nil, or_false] at hy
    rcases hy with rfl | rfl | rfl | rfl <;> rfl
  · rw [doInvoke_state]
    exact st2 _ hwalk
end VXK
section VXK2
variable {p : Program} {l : Launch} {e : Env} {R : Room} {s : State} {m : MethodId} {args : Array Value} {below : List Frame} {meth : Method} {c : Code} {H : Heap} {locs : List Loc} {cells slots : Nat} {Q : State → Prop}
variable {ls : Array Slot} {rest : List Value} {D : va_G} {cl : List vw_C} {tys : List (ClassId × FieldType)} {ws : va_W}
/-- 'new E("text")' that isn't thrown at once: the object goes on the stack -/
theorem vx_makeS {cc : ByteArray} {pc : Nat} (hexec : p.tables.exec = Jvm.exec) (hb : c.code = cc) (hl : l.stackTraces = false) {own cls text : String} {names : List String} {ik is ic sa ci : Nat} {A : Nat → Prop} {T0 : u_T}
    (hown : s.vm.findClass own = some m.cls) (hcls : Bundle.fit cls = true) (hnames : ∀ n ∈ names, Bundle.fit n = true)
    (hk : (Cond.classLink own ik cls).before args s = true) (hini : (Cond.initialized cls).before args s = true) (hstr : vk_R own is text sa s) (hat : ∀ w ∈ vx_atS own ic cls names, w.before args s = true)
    (hgood : ∀ w ∈ Cond.classLink own ik cls :: Cond.initialized cls :: vx_atS own ic cls names, vx_ot w = true)
    (hU : vx_Zq Bundle.tN "UNASSIGNED_STACK" Bundle.steD A s s.heap) (hN : vx_Zq Bundle.tN "SUPPRESSED_SENTINEL" Bundle.listD A s s.heap) (hS : va_S A s.heap H locs) (hsize : ls.size = c.maxLocals)
    (d0 : decode cc pc = .ok (.new ik, 3)) (d3 : decode cc (pc + 3) = .ok (.dup, 1)) (d4 : decode cc (pc + 4) = .ok (.ldc is, 2)) (d6 : decode cc (pc + 6) = .ok (.invokespecial ic, 3))
    (hK : va_K D cl tys s) (hP : va_P D cl ws H) (hD : va_D A ws) (hA : ∀ q, s.heap.size ≤ q → A q) (hc : cl[ci]? = some (cls, T0, 0))
    (hRframes : names.length + 3 < R.frames) (hRlocals : (rest.map fun v => v.category).sum + (13 * (names.length + 1) + 43) ≤ R.locals) (hRcells : cells + 1 ≤ R.cells) (hRslots : slots + 6 ≤ R.slots)
    (kk : ∀ (q : Nat) (H1 : Heap), va_P D cl (ws ++ [(q, .inr (ci, []))]) H1 → va_D A (ws ++ [(q, .inr (ci, []))]) → va_S A s.heap H1 locs → W p l e R s m args below meth c H1 locs (cells + 1) (slots + 6) Q (F0 m (pc + 9) ls (.ref q :: rest))) :
    W p l e R s m args below meth c H locs cells slots Q (F0 m pc ls rest) := by
  intro T hT X
  subst hT
  have htr : e.platform.stackTraces = false := (show e.platform.stackTraces = l.stackTraces by rw [X.admits.platform]).trans hl
  have Y := vx_rebase X (R' := { frames := R.frames, locals := R.locals, cells := 1, slots := 6 }) (Nat.le_refl _) (Nat.le_refl _) hRcells hRslots
  obtain ⟨s', hA'⟩ : ∃ z, z = (T.setVm s.vm).setFrames (.invoking m args :: below) := ⟨_, rfl⟩
  rw [← hA'] at Y
  have hvm : s'.vm = s.vm := by rw [hA']; rfl
  have hhp : s'.heap = T.heap := by rw [hA']; rfl
  have hW0 : s.WarmedH s'.vm := by rw [hvm]; exact State.WarmedH.refl s
  have hat' : ∀ w ∈ vx_atS own ic cls names, w.before args s' = true := fun w hw => vx_ot_at hW0 hvm.symm (hgood w (List.mem_cons_of_mem _ (List.mem_cons_of_mem _ hw))) (hat w hw)
  have hk' : (Cond.classLink own ik cls).before args s' = true := vx_ot_at hW0 hvm.symm (hgood _ List.mem_cons_self) hk
  have hini' : (Cond.initialized cls).before args s' = true := vx_ot_at hW0 hvm.symm (hgood _ (List.mem_cons_of_mem _ List.mem_cons_self)) hini
  have hU' : vx_Zq Bundle.tN "UNASSIGNED_STACK" Bundle.steD A s' s'.heap := by rw [hhp]; exact vx_Zq.moved hW0.alike (hU.kept hS.2.1)
  have hN' : vx_Zq Bundle.tN "SUPPRESSED_SENTINEL" Bundle.listD A s' s'.heap := by rw [hhp]; exact vx_Zq.moved hW0.alike (hN.kept hS.2.1)
  have h : ∀ w ∈ Bundle.ownAtoms own ic cls names, w.before args s' = true := vx_own hat' (vx_isRefq hU'.1) (vx_isRefq hN'.1) hU'.2.word hN'.2.word
  have hown' : s'.vm.findClass own = some m.cls := by rw [hvm]; exact hown
  have hins : (Cond.instantiable cls 6).before args s' = true := h _ (by simp [Bundle.ownAtoms])
  obtain ⟨vm₁, cX, kX, hfX, hkX, -, -, X₁, st1⟩ := Y.newCold hexec (own := own) (C := cls) (index := ik) (n := 6) hown' hk' hins hini'
    (g := F0 m pc ls rest) rfl (by rw [hb]; exact d0) (Nat.le_refl _) (Nat.le_refl _)
  generalize hT1 : (T.setVm vm₁).pushCell { cls := cX, slots := kX.instanceTypes.map defaultValue, vm := .none } = T1 at X₁ st1
  have hcat : (Value.ref T.heap.size).category = 1 := rfl
  have hcellA : T1.heap[T.heap.size]? = some (freshCell cX kX) := by rw [← hT1]; exact State.heap_pushCell_size _ _
  have d3' : decode c.code (pc + 3) = .ok (.dup, 1) := by rw [hb]; exact d3
  have d4' : decode c.code (pc + 4) = .ok (.ldc is, 2) := by rw [hb]; exact d4
  have hstr' : vk_R own is text sa s' := vk_R.warm hW0 hstr
  obtain ⟨V, ce, L, Z, hL, hlt, hcl9, hvm9, st⟩ := vx_ctorMadeS X₁ hexec htr (own := own) (cls := cls) (names := names) (ic := ic) hown' hcls hnames h (fun x hx => nomatch hx) hfX hkX hcellA (by rw [hhp]; exact Nat.le_refl _) (msg := .ref sa) rfl
    (g := { method := m, pc := pc + 6, locals := ls, stack := .ref sa :: .ref T.heap.size :: .ref T.heap.size :: rest, locked := none }) rfl hsize (rest := rest) rfl
    (by rw [hb]; exact d6) hRframes (by simp only [List.map_cons, List.sum_cons, hcat]; omega)
  have Z0 := Stand.forget (locs := []) Z (fun y hy => by rw [hL y hy, hhp]; exact Nat.le_refl _)
  obtain ⟨f1, f2⟩ := vx_frame Z0.same
  rw [hhp] at f1 f2
  have hcid : ce.cls = D.1 ci := by
    rw [hcl9]
    have h1 := (hK.1 ci _ hc).2.1
    rw [hvm] at hfX
    exact Option.some.inj (hfX.symm.trans h1)
  have hh : (V.setCell T.heap.size ce).heap[T.heap.size]? = some ce := heapAt_setCell_self (s := V) ce hlt
  subst hA'
  have X5 := vx_back9 X Y Z0
  have X6 : Stand p l e R s m args below meth c (V.setCell T.heap.size ce) locs (cells + 1) (slots + 6) := { X5 with same := X5.same.mono (by omega) (by omega) }
  have hk9 : ∀ (k : Nat) (x : Nat × va_E), ws[k]? = some x → (V.setCell T.heap.size ce).heap[x.1]? = T.heap[x.1]? := fun k x hx => f2 x.1 ((hP k x hx).lt) (fun z hz => nomatch hz)
  obtain ⟨t, a1, b1⟩ := kk T.heap.size (V.setCell T.heap.size ce).heap ((hP.kept hk9).app (fun k x hx => by
      have hz : k < 1 := (List.getElem?_eq_some_iff.mp hx).1
      rw [show k = 0 by omega] at hx
      cases hx
      exact ⟨_, hc, ce, hh, hcid, hvm9, fun k hk => absurd hk (Nat.not_lt_zero k)⟩)) (hD.push hP rfl (hA _ hS.1)) ⟨Nat.le_trans hS.1 f1, fun q h1 h2 => (f2 q (Nat.lt_of_lt_of_le h1 hS.1) (fun z hz => nomatch hz)).trans (hS.2.1 q h1 h2), hS.2.2⟩ _ rfl X6
  refine ⟨t, st1 _ ?_, b1⟩
  show Steps p.tables e below (T1.setTop { method := m, pc := pc + 3, locals := ls, stack := .ref T.heap.size :: rest, locked := none }) _
  jvm_step X₁.here [X₁.here.top, hexec, d3', Value.category]
  exact X₁.ldcString hexec (own := own) (text := text) (index := is) (a := sa) hown' hstr'.1 hstr'.2
    (g := { method := m, pc := pc + 4, locals := ls, stack := .ref T.heap.size :: .ref T.heap.size :: rest, locked := none }) rfl d4' _ (st _ a1)
/-- 'new E()' that isn't thrown at once: the object goes on the stack -/
theorem vx_make0 {cc : ByteArray} {pc : Nat} (hexec : p.tables.exec = Jvm.exec) (hb : c.code = cc) (hl : l.stackTraces = false) {own cls : String} {names : List String} {ik ic ci : Nat} {A : Nat → Prop} {T0 : u_T}
    (hown : s.vm.findClass own = some m.cls) (hcls : Bundle.fit cls = true) (hnames : ∀ n ∈ names, Bundle.fit n = true)
    (hk : (Cond.classLink own ik cls).before args s = true) (hini : (Cond.initialized cls).before args s = true) (hat : ∀ w ∈ vx_at0 own ic cls names, w.before args s = true)
    (hgood : ∀ w ∈ Cond.classLink own ik cls :: Cond.initialized cls :: vx_at0 own ic cls names, vx_ot w = true)
    (hU : vx_Zq Bundle.tN "UNASSIGNED_STACK" Bundle.steD A s s.heap) (hN : vx_Zq Bundle.tN "SUPPRESSED_SENTINEL" Bundle.listD A s s.heap) (hS : va_S A s.heap H locs) (hsize : ls.size = c.maxLocals)
    (d0 : decode cc pc = .ok (.new ik, 3)) (d3 : decode cc (pc + 3) = .ok (.dup, 1)) (d4 : decode cc (pc + 4) = .ok (.invokespecial ic, 3))
    (hK : va_K D cl tys s) (hP : va_P D cl ws H) (hD : va_D A ws) (hA : ∀ q, s.heap.size ≤ q → A q) (hc : cl[ci]? = some (cls, T0, 0))
    (hRframes : names.length + 3 < R.frames) (hRlocals : (rest.map fun v => v.category).sum + (13 * (names.length + 1) + 42) ≤ R.locals) (hRcells : cells + 1 ≤ R.cells) (hRslots : slots + 6 ≤ R.slots)
    (kk : ∀ (q : Nat) (H1 : Heap), va_P D cl (ws ++ [(q, .inr (ci, []))]) H1 → va_D A (ws ++ [(q, .inr (ci, []))]) → va_S A s.heap H1 locs → W p l e R s m args below meth c H1 locs (cells + 1) (slots + 6) Q (F0 m (pc + 7) ls (.ref q :: rest))) :
    W p l e R s m args below meth c H locs cells slots Q (F0 m pc ls rest) := by
  intro T hT X
  subst hT
  have htr : e.platform.stackTraces = false := (show e.platform.stackTraces = l.stackTraces by rw [X.admits.platform]).trans hl
  have Y := vx_rebase X (R' := { frames := R.frames, locals := R.locals, cells := 1, slots := 6 }) (Nat.le_refl _) (Nat.le_refl _) hRcells hRslots
  obtain ⟨s', hA'⟩ : ∃ z, z = (T.setVm s.vm).setFrames (.invoking m args :: below) := ⟨_, rfl⟩
  rw [← hA'] at Y
  have hvm : s'.vm = s.vm := by rw [hA']; rfl
  have hhp : s'.heap = T.heap := by rw [hA']; rfl
  have hW0 : s.WarmedH s'.vm := by rw [hvm]; exact State.WarmedH.refl s
  have hat' : ∀ w ∈ vx_at0 own ic cls names, w.before args s' = true := fun w hw => vx_ot_at hW0 hvm.symm (hgood w (List.mem_cons_of_mem _ (List.mem_cons_of_mem _ hw))) (hat w hw)
  have hk' : (Cond.classLink own ik cls).before args s' = true := vx_ot_at hW0 hvm.symm (hgood _ List.mem_cons_self) hk
  have hini' : (Cond.initialized cls).before args s' = true := vx_ot_at hW0 hvm.symm (hgood _ (List.mem_cons_of_mem _ List.mem_cons_self)) hini
  have hU' : vx_Zq Bundle.tN "UNASSIGNED_STACK" Bundle.steD A s' s'.heap := by rw [hhp]; exact vx_Zq.moved hW0.alike (hU.kept hS.2.1)
  have hN' : vx_Zq Bundle.tN "SUPPRESSED_SENTINEL" Bundle.listD A s' s'.heap := by rw [hhp]; exact vx_Zq.moved hW0.alike (hN.kept hS.2.1)
  have h : ∀ w ∈ Bundle.ownAtoms0 own ic cls names, w.before args s' = true := vx_own hat' (vx_isRefq hU'.1) (vx_isRefq hN'.1) hU'.2.word hN'.2.word
  have hown' : s'.vm.findClass own = some m.cls := by rw [hvm]; exact hown
  have hins : (Cond.instantiable cls 6).before args s' = true := h _ (by simp [Bundle.ownAtoms0])
  obtain ⟨vm₁, cX, kX, hfX, hkX, -, -, X₁, st1⟩ := Y.newCold hexec (own := own) (C := cls) (index := ik) (n := 6) hown' hk' hins hini'
    (g := F0 m pc ls rest) rfl (by rw [hb]; exact d0) (Nat.le_refl _) (Nat.le_refl _)
  generalize hT1 : (T.setVm vm₁).pushCell { cls := cX, slots := kX.instanceTypes.map defaultValue, vm := .none } = T1 at X₁ st1
  have hcat : (Value.ref T.heap.size).category = 1 := rfl
  have hcellA : T1.heap[T.heap.size]? = some (freshCell cX kX) := by rw [← hT1]; exact State.heap_pushCell_size _ _
  have d3' : decode c.code (pc + 3) = .ok (.dup, 1) := by rw [hb]; exact d3
  obtain ⟨V, ce, L, Z, hL, hlt, hcl9, hvm9, st⟩ := vx_ctorMade0 X₁ hexec htr (own := own) (cls := cls) (names := names) (ic := ic) hown' hcls hnames h (fun x hx => nomatch hx) hfX hkX hcellA (by rw [hhp]; exact Nat.le_refl _)
    (g := { method := m, pc := pc + 4, locals := ls, stack := .ref T.heap.size :: .ref T.heap.size :: rest, locked := none }) rfl hsize (rest := rest) rfl
    (by rw [hb]; exact d4) hRframes (by simp only [List.map_cons, List.sum_cons, hcat]; omega)
  have Z0 := Stand.forget (locs := []) Z (fun y hy => by rw [hL y hy, hhp]; exact Nat.le_refl _)
  obtain ⟨f1, f2⟩ := vx_frame Z0.same
  rw [hhp] at f1 f2
  have hcid : ce.cls = D.1 ci := by
    rw [hcl9]
    have h1 := (hK.1 ci _ hc).2.1
    rw [hvm] at hfX
    exact Option.some.inj (hfX.symm.trans h1)
  have hh : (V.setCell T.heap.size ce).heap[T.heap.size]? = some ce := heapAt_setCell_self (s := V) ce hlt
  subst hA'
  have X5 := vx_back9 X Y Z0
  have X6 : Stand p l e R s m args below meth c (V.setCell T.heap.size ce) locs (cells + 1) (slots + 6) := { X5 with same := X5.same.mono (by omega) (by omega) }
  have hk9 : ∀ (k : Nat) (x : Nat × va_E), ws[k]? = some x → (V.setCell T.heap.size ce).heap[x.1]? = T.heap[x.1]? := fun k x hx => f2 x.1 ((hP k x hx).lt) (fun z hz => nomatch hz)
  obtain ⟨t, a1, b1⟩ := kk T.heap.size (V.setCell T.heap.size ce).heap ((hP.kept hk9).app (fun k x hx => by
      have hz : k < 1 := (List.getElem?_eq_some_iff.mp hx).1
      rw [show k = 0 by omega] at hx
      cases hx
      exact ⟨_, hc, ce, hh, hcid, hvm9, fun k hk => absurd hk (Nat.not_lt_zero k)⟩)) (hD.push hP rfl (hA _ hS.1)) ⟨Nat.le_trans hS.1 f1, fun q h1 h2 => (f2 q (Nat.lt_of_lt_of_le h1 hS.1) (fun z hz => nomatch hz)).trans (hS.2.1 q h1 h2), hS.2.2⟩ _ rfl X6
  refine ⟨t, st1 _ ?_, b1⟩
  show Steps p.tables e below (T1.setTop { method := m, pc := pc + 3, locals := ls, stack := .ref T.heap.size :: rest, locked := none }) _
  jvm_step X₁.here [X₁.here.top, hexec, d3', Value.category]
  exact st _ a1
/-- 'throw x' of an object that was made before -/
theorem vx_athrow {cc : ByteArray} {pc : Nat} (hexec : p.tables.exec = Jvm.exec) (hb : c.code = cc) {q : Addr} (hdg : decode cc pc = .ok (.athrow, 1)) (k : vx_W p l e R s m args below meth c H locs cells slots Q (F0 m pc ls rest) q) : W p l e R s m args below meth c H locs cells slots Q (F0 m pc ls (.ref q :: rest)) := by
  intro T hT X
  obtain ⟨t, st, hq⟩ := k T hT X
  refine ⟨t, ?_, hq⟩
  have hdg' : decode c.code pc = .ok (.athrow, 1) := by rw [hb]; exact hdg
  jvm_step X.here [X.here.top, hexec, hdg', athrow.wp_sem]
  exact st
end VXK2
/-! ===== END ===== -/
/-! ===== BEGIN a constructor that throws (launches without stack traces) ===== -/
section VXIA
variable {p : Program} {l : Launch} {e : Env} {R : Room} {s : State} {m : MethodId} {args : Array Value} {below : List Frame} {meth : Method} {c : Code} {T : State} {locs : List Loc} {cells slots : Nat}
theorem vx_callI (X : Stand p l e R s m args below meth c T locs cells slots) (hexec : p.tables.exec = Jvm.exec) {own : String} {index : Nat} {y : MethodName} {bytes : ByteArray} {maxL : Nat}
    (hown : s.vm.findClass own = some m.cls) (hy1 : y.name = "<init>") (hlink : (Cond.methodLink own index y).before args s = true) (hinst : (Cond.instanceMethod y).before args s = true)
    (hcode : (Cond.code y bytes maxL none).before args s = true) (hy : y.cls ≠ "java/lang/invoke/MethodHandle" ∧ y.cls ≠ "java/lang/invoke/VarHandle")
    {W9 : Nat} {Pre : Pt → Array Value → Prop} {Post : Pt → Array Value → Option Value → Pt → Prop} {PostX : Pt → Array Value → Addr → Pt → Prop} (hK : vx_Back l R p e below s args y 3 W9 Pre Post PostX)
    {g : JFrame} (hg : g.method = m) (hsize : g.locals.size = c.maxLocals) {a : Addr} {argsL rest : List Value} (hlen : ∀ sig, parseMethodDescriptor y.desc = some sig → argsL.length = sig.parameters.length)
    (hstack : g.stack = argsL.reverse ++ .ref a :: rest) (hW : 2 * g.monitorRoom + (rest.map fun v => v.category).sum ≤ W9) (hdg : decode c.code g.pc = .ok (.invokespecial index, 3))
    (hpre : ∀ vm₁, s.WarmedH vm₁ → Pre ⟨T.setVm vm₁, locs, cells, slots⟩ (Value.ref a :: argsL).toArray) :
    (∃ (v : Option Value) (vm₁ : Vm) (B : Pt), s.WarmedH vm₁ ∧ Stand p l e R s m args below meth c B.U B.locs B.cells B.slots ∧ Post ⟨T.setVm vm₁, locs, cells, slots⟩ (Value.ref a :: argsL).toArray v B ∧
      ∀ target, Steps p.tables e below (B.U.setTop { g with pc := g.pc + 3, stack := v.toList ++ rest }) target → Steps p.tables e below (T.setTop g) target) ∨
    (∃ (q : Addr) (vm₁ : Vm) (B : Pt), s.WarmedH vm₁ ∧ Stand p l e R s m args below meth c B.U B.locs B.cells B.slots ∧ PostX ⟨T.setVm vm₁, locs, cells, slots⟩ (Value.ref a :: argsL).toArray q B ∧
      Steps p.tables e below (T.setTop g) ((B.U.setTop { g with stack := rest }).pushFrame (.throwing q))) := by
  subst hg
  have hpl : e.platform.magicAccessors = ({} : Platform).magicAccessors := by rw [X.admits.platform]
  obtain ⟨mk, methM, cM, kP, vm₁, hnamed, hmethM, hcodeM, -, hlocalsM, -, hkP, -, hW₁, hstep₁⟩ := Steps.initColdArgs (e := e) X.here hexec X.warmed hpl hown hy1 hy hlink hinst hcode (f := g) rfl hlen hstack hdg
  have X₁ := X.noted hW₁
  rcases hK g.method meth c ⟨T.setVm vm₁, locs, cells, slots⟩ { g with stack := rest } (.invokespecial index) mk (Value.ref a :: argsL).toArray X₁ rfl hsize hdg hW (X₁.named hnamed) (hpre vm₁ X₁.warmed) with ⟨v, B, X', hpost, hsteps⟩ | ⟨q, B, X', hpost, hsteps⟩
  · exact Or.inl ⟨v, vm₁, B, X₁.warmed, X', hpost, fun target h => hstep₁ _ fun acts => by rw [doInvoke_state]; exact hsteps.trans h⟩
  · exact Or.inr ⟨q, vm₁, B, X₁.warmed, X', hpost, hstep₁ _ fun acts => by rw [doInvoke_state]; exact hsteps⟩
end VXIA
section VXIB
variable {p : Program} {l : Launch} {e : Env} {R : Room} {s : State} {m : MethodId} {args : Array Value} {below : List Frame} {meth : Method} {c : Code} {H : Heap} {locs : List Loc} {cells slots : Nat}
variable {y : MethodName} {bytes cc : ByteArray} {maxL nL mc ms n index : Nat} {ret : Option FieldType} {ws : List Cond} {rm : Room} {Pc : Array Value → State → Prop} {Qc : Array Value → State → Outcome → State → Prop} {XC : String → State → State → Prop} {free : Addr → Prop} {Ts : List Cond} {own C : String} {b : Addr} {As rest : List Value} {g : JFrame}
theorem vx_runI (S : CallFix p m c cc nL s args Ts own) (hM : vx_Met l y ws rm Pc Qc XC mc ms free) (cw : CallB R s args own index y bytes maxL none ws rm mc ms n ∧ y.name = "<init>" ∧ (Cond.instanceMethod y).before args s = true) (hp : PreS s H Pc (.ref b :: As))
    (hg : g.method = m) (hn : As.length = n) (hsize : g.locals.size = nL) (hstack : g.stack = As.reverse ++ .ref b :: rest) (hW : 2 * g.monitorRoom + (rest.map fun v => v.category).sum ≤ 8) (hdg : decode cc g.pc = .ok (.invokespecial index, 3)) (hf : cells + mc ≤ R.cells ∧ slots + ms ≤ R.slots) :
    vx_Run p l e R s m args below meth c H locs cells slots mc ms g rest (Qc (Value.ref b :: As).toArray) XC free := by
  have hK : vx_Back l R p e below s args y 3 8 (PreOf R mc ms Pc) (PostOf Qc mc ms free) (vx_Post XC mc ms free) := vx_callBack cw.1 hM hp.1
  obtain ⟨⟨-, -, -, -, -, -, hcode, -, hy, hlen, hl⟩, hy1, hin⟩ := cw
  obtain ⟨hx, hb, hml, ho, -⟩ := S
  have hPc := hp.2
  intro T hT X
  rcases vx_callI X hx (bytes := bytes) (maxL := maxL) ho hy1 hl hin hcode hy hK hg (hsize.trans hml.symm) (a := b) (argsL := As) (rest := rest) (fun sig h => hn.trans (hlen sig h)) hstack hW (by rw [hb]; exact hdg)
    (fun vm₁ hW₁ => ⟨hf.1, hf.2, hPc (T.setVm vm₁) hT hW₁⟩) with ⟨v, vm₁, ⟨U', l2, c2, s2⟩, hW₁, X', ⟨g', mk, t, L, e1, e2, hq, h1, hL, h2, h3⟩, st⟩ | ⟨q, vm₁, ⟨U', l2, c2, s2⟩, hW₁, X', ⟨g', mk, t, L, E, ce, e1, e2, hq, hce, hcv, hcl, h1, hL, h2, h3⟩, st⟩
  · dsimp only [Pt.U, Pt.locs, Pt.cells, Pt.slots] at X' e1 e2 h1 h2 h3 st
    subst h1; subst h2; subst h3
    exact Or.inl ⟨v, (T.setVm vm₁).calling g' mk (Value.ref b :: As).toArray, t, U', L, hT, X', hL, e1, e2, hq, st⟩
  · dsimp only [Pt.U, Pt.locs, Pt.cells, Pt.slots] at X' e1 e2 h1 h2 h3 st hcl
    subst h1; subst h2; subst h3
    exact Or.inr ⟨q, (T.setVm vm₁).calling g' mk (Value.ref b :: As).toArray, t, U', L, E, ce, hT, X', hL, e1, e2, hq, hce, hcv, vx_cls hW₁ hcl, st⟩
end VXIB
/-! ===== END ===== -/
/-! ===== BEGIN a private constructor of a nest mate that throws ===== -/
section VXIC
variable {p : Program} {l : Launch} {e : Env} {R : Room} {s : State} {m : MethodId} {args : Array Value} {below : List Frame} {meth : Method} {c : Code} {T : State} {locs : List Loc} {cells slots : Nat}
theorem vx_callIN (X : Stand p l e R s m args below meth c T locs cells slots) (hexec : p.tables.exec = Jvm.exec) {own : String} {index : Nat} {host : String} {y : MethodName} {bytes : ByteArray} {maxL : Nat}
    (hown : s.vm.findClass own = some m.cls) (hy1 : y.name = "<init>") (hlink : (Cond.methodLinkNest own index y host).before args s = true) (hinst : (Cond.instanceMethod y).before args s = true)
    (hcode : (Cond.code y bytes maxL none).before args s = true) (hy : y.cls ≠ "java/lang/invoke/MethodHandle" ∧ y.cls ≠ "java/lang/invoke/VarHandle")
    {W9 : Nat} {Pre : Pt → Array Value → Prop} {Post : Pt → Array Value → Option Value → Pt → Prop} {PostX : Pt → Array Value → Addr → Pt → Prop} (hK : vx_Back l R p e below s args y 3 W9 Pre Post PostX)
    {g : JFrame} (hg : g.method = m) (hsize : g.locals.size = c.maxLocals) {a : Addr} {argsL rest : List Value} (hlen : ∀ sig, parseMethodDescriptor y.desc = some sig → argsL.length = sig.parameters.length)
    (hstack : g.stack = argsL.reverse ++ .ref a :: rest) (hW : 2 * g.monitorRoom + (rest.map fun v => v.category).sum ≤ W9) (hdg : decode c.code g.pc = .ok (.invokespecial index, 3))
    (hpre : ∀ vm₁, s.WarmedH vm₁ → Pre ⟨T.setVm vm₁, locs, cells, slots⟩ (Value.ref a :: argsL).toArray) :
    (∃ (v : Option Value) (vm₁ : Vm) (B : Pt), s.WarmedH vm₁ ∧ Stand p l e R s m args below meth c B.U B.locs B.cells B.slots ∧ Post ⟨T.setVm vm₁, locs, cells, slots⟩ (Value.ref a :: argsL).toArray v B ∧
      ∀ target, Steps p.tables e below (B.U.setTop { g with pc := g.pc + 3, stack := v.toList ++ rest }) target → Steps p.tables e below (T.setTop g) target) ∨
    (∃ (q : Addr) (vm₁ : Vm) (B : Pt), s.WarmedH vm₁ ∧ Stand p l e R s m args below meth c B.U B.locs B.cells B.slots ∧ PostX ⟨T.setVm vm₁, locs, cells, slots⟩ (Value.ref a :: argsL).toArray q B ∧
      Steps p.tables e below (T.setTop g) ((B.U.setTop { g with stack := rest }).pushFrame (.throwing q))) := by
  subst hg
  have hpl : e.platform.magicAccessors = ({} : Platform).magicAccessors := by rw [X.admits.platform]
  obtain ⟨mk, methM, cM, kP, vm₁, hnamed, hmethM, hcodeM, -, hlocalsM, -, hkP, -, hW₁, hstep₁⟩ := Steps.initColdArgsNest (e := e) X.here hexec X.warmed hpl hown hy1 hy hlink hinst hcode (f := g) rfl hlen hstack hdg
  have X₁ := X.noted hW₁
  rcases hK g.method meth c ⟨T.setVm vm₁, locs, cells, slots⟩ { g with stack := rest } (.invokespecial index) mk (Value.ref a :: argsL).toArray X₁ rfl hsize hdg hW (X₁.named hnamed) (hpre vm₁ X₁.warmed) with ⟨v, B, X', hpost, hsteps⟩ | ⟨q, B, X', hpost, hsteps⟩
  · exact Or.inl ⟨v, vm₁, B, X₁.warmed, X', hpost, fun target h => hstep₁ _ fun acts => by rw [doInvoke_state]; exact hsteps.trans h⟩
  · exact Or.inr ⟨q, vm₁, B, X₁.warmed, X', hpost, hstep₁ _ fun acts => by rw [doInvoke_state]; exact hsteps⟩
end VXIC
section VXID
variable {p : Program} {l : Launch} {e : Env} {R : Room} {s : State} {m : MethodId} {args : Array Value} {below : List Frame} {meth : Method} {c : Code} {H : Heap} {locs : List Loc} {cells slots : Nat}
theorem vx_runIN {y : MethodName} {bytes cc : ByteArray} {maxL nL mc ms n index : Nat} {ws : List Cond} {rm : Room} {Pc : Array Value → State → Prop} {Qc : Array Value → State → Outcome → State → Prop} {XC : String → State → State → Prop} {free : Addr → Prop} {Ts : List Cond} {own host : String} {b : Addr} {As rest : List Value} {g : JFrame}
    (S : CallFix p m c cc nL s args Ts own) (hM : vx_Met l y ws rm Pc Qc XC mc ms free) (cw : va_CN R s args own index y host bytes maxL none ws rm mc ms n ∧ y.name = "<init>" ∧ (Cond.instanceMethod y).before args s = true) (hp : PreS s H Pc (.ref b :: As))
    (hg : g.method = m) (hn : As.length = n) (hsize : g.locals.size = nL) (hstack : g.stack = As.reverse ++ .ref b :: rest) (hW : 2 * g.monitorRoom + (rest.map fun v => v.category).sum ≤ 8) (hdg : decode cc g.pc = .ok (.invokespecial index, 3)) (hf : cells + mc ≤ R.cells ∧ slots + ms ≤ R.slots) :
    vx_Run p l e R s m args below meth c H locs cells slots mc ms g rest (Qc (Value.ref b :: As).toArray) XC free := by
  obtain ⟨⟨⟨hrc, hrs, hfr, hlo, hws, hcw⟩, hcode, hini, hy, hlen, hl⟩, hx1, hx2⟩ := cw
  have hK : vx_Back l R p e below s args y 3 8 (PreOf R mc ms Pc) (PostOf Qc mc ms free) (vx_Post XC mc ms free) := vx_back (bytes := bytes) (maxL := maxL) (ret := none) hM hp.1 hrc hrs hfr hlo hws hcw (fun a' U hW => word_at hW (Or.inl (by first | rfl | simp [Cond.onTables, Cond.keeps, Cond.steady])) hini)
  obtain ⟨hx, hb, hml, ho, -⟩ := S
  have hPc := hp.2
  intro T hT X
  rcases vx_callIN X hx (bytes := bytes) (maxL := maxL) ho hx1 hl hx2 hcode hy hK hg (hsize.trans hml.symm) (a := b) (argsL := As) (rest := rest) (fun sig h => hn.trans (hlen sig h)) hstack hW (by rw [hb]; exact hdg)
    (fun vm₁ hW₁ => ⟨hf.1, hf.2, hPc (T.setVm vm₁) hT hW₁⟩) with ⟨v, vm₁, ⟨U', l2, c2, s2⟩, hW₁, X', ⟨g', mk, t, L, e1, e2, hq, h1, hL, h2, h3⟩, st⟩ | ⟨q, vm₁, ⟨U', l2, c2, s2⟩, hW₁, X', ⟨g', mk, t, L, E, ce, e1, e2, hq, hce, hcv, hcl, h1, hL, h2, h3⟩, st⟩
  · dsimp only [Pt.U, Pt.locs, Pt.cells, Pt.slots] at X' e1 e2 h1 h2 h3 st
    subst h1; subst h2; subst h3
    exact Or.inl ⟨v, (T.setVm vm₁).calling g' mk (Value.ref b :: As).toArray, t, U', L, hT, X', hL, e1, e2, hq, st⟩
  · dsimp only [Pt.U, Pt.locs, Pt.cells, Pt.slots] at X' e1 e2 h1 h2 h3 st hcl
    subst h1; subst h2; subst h3
    exact Or.inr ⟨q, (T.setVm vm₁).calling g' mk (Value.ref b :: As).toArray, t, U', L, E, ce, hT, X', hL, e1, e2, hq, hce, hcv, vx_cls hW₁ hcl, st⟩
end VXID
/-! ===== END ===== -/
/-! ===== BEGIN a private method of a nest mate that may throw (follows va_callVN, va_callSN, va_runVN, va_runSN) ===== -/
section
variable {p : Program} {l : Launch} {e : Env} {R : Room} {s : State} {m : MethodId} {args : Array Value} {below : List Frame} {meth : Method} {c : Code} {H : Heap} {locs : List Loc} {cells slots : Nat}
variable {T : State}
theorem vx_callVN (X : Stand p l e R s m args below meth c T locs cells slots) (hexec : p.tables.exec = Jvm.exec) {own C : String} {index : Nat} {host : String} {y : MethodName} {bytes : ByteArray} {maxL : Nat} {ret : Option FieldType}
    (hown : s.vm.findClass own = some m.cls) (hlink : (Cond.methodLinkNest own index y host).before args s = true) (hinst : (Cond.instanceMethod y).before args s = true) (hsel : (Cond.selects C y y).before args s = true)
    (hcode : (Cond.code y bytes maxL ret).before args s = true) (hy : y.cls ≠ "java/lang/invoke/MethodHandle" ∧ y.cls ≠ "java/lang/invoke/VarHandle")
    {W : Nat} {Pre : Pt → Array Value → Prop} {Post : Pt → Array Value → Option Value → Pt → Prop} {PostX : Pt → Array Value → Addr → Pt → Prop} (hK : vx_Back l R p e below s args y 3 W Pre Post PostX)
    {b : Addr} {cellB : Cell} (hcell : T.heap[b]? = some cellB) (hobj : cellB.vm.isStatics = false) (hcls : s.vm.findClass C = some cellB.cls)
    {g : JFrame} (hg : g.method = m) (hsize : g.locals.size = c.maxLocals) {argsL rest : List Value} (hlen : ∀ sig, parseMethodDescriptor y.desc = some sig → argsL.length = sig.parameters.length)
    (hstack : g.stack = argsL.reverse ++ .ref b :: rest) (hW : 2 * g.monitorRoom + (rest.map fun v => v.category).sum ≤ W) (hdg : decode c.code g.pc = .ok (.invokevirtual index, 3))
    (hpre : ∀ vm₁, s.WarmedH vm₁ → Pre ⟨T.setVm vm₁, locs, cells, slots⟩ (Value.ref b :: argsL).toArray) :
    (∃ (v : Option Value) (vm₁ : Vm) (B : Pt), s.WarmedH vm₁ ∧ Stand p l e R s m args below meth c B.U B.locs B.cells B.slots ∧ Post ⟨T.setVm vm₁, locs, cells, slots⟩ (Value.ref b :: argsL).toArray v B ∧
      ∀ target, Steps p.tables e below (B.U.setTop { g with pc := g.pc + 3, stack := v.toList ++ rest }) target → Steps p.tables e below (T.setTop g) target) ∨
    (∃ (q : Addr) (vm₁ : Vm) (B : Pt), s.WarmedH vm₁ ∧ Stand p l e R s m args below meth c B.U B.locs B.cells B.slots ∧ PostX ⟨T.setVm vm₁, locs, cells, slots⟩ (Value.ref b :: argsL).toArray q B ∧
      Steps p.tables e below (T.setTop g) ((B.U.setTop { g with stack := rest }).pushFrame (.throwing q))) := by
  obtain ⟨mk, methM, hnamed, hmethM, hstM, habM⟩ := Cond.instanceMethod_spec hinst
  obtain ⟨methM', cM, hmethM', -, -, -, -, -, -, hsigM⟩ := Cond.code_spec hnamed hcode
  cases hmethM.symm.trans hmethM'
  obtain ⟨c2, r2, m2, q1, q2, q3, q4, kP, hkP, hkPi⟩ := Cond.selects_spec hsel
  cases hcls.symm.trans q1
  cases (State.methodFound?_of_named hnamed hy).symm.trans q2
  cases hnamed.symm.trans q3
  have hselP : selectMethod e.platform s.vm cellB.cls mk = .method mk := by rw [Launch.admits_selectMethod X.admits]; exact q4
  obtain ⟨vm₁, X₁, hstep₁⟩ := X.invokevirtualNest hexec hown hlink hnamed hmethM hstM hkP hkPi hy (a := b) (cell := cellB) hcell
    (fun z h => by rw [h] at hobj; cases hobj) hselP hmethM habM hkP hkPi (g := g) hg (argsL := argsL) (rest := rest) (hlen _ hsigM) hstack hdg
  rcases hK m meth c ⟨T.setVm vm₁, locs, cells, slots⟩ { g with stack := rest } (.invokevirtual index) mk (Value.ref b :: argsL).toArray X₁ hg hsize hdg hW (X₁.named hnamed) (hpre vm₁ X₁.warmed) with ⟨v, B, X', hpost, hsteps⟩ | ⟨q, B, X', hpost, hsteps⟩
  · exact Or.inl ⟨v, vm₁, B, X₁.warmed, X', hpost, fun target h => hstep₁ _ fun acts => by rw [doInvoke_state]; exact hsteps.trans h⟩
  · exact Or.inr ⟨q, vm₁, B, X₁.warmed, X', hpost, hstep₁ _ fun acts => by rw [doInvoke_state]; exact hsteps⟩
theorem vx_callSN (X : Stand p l e R s m args below meth c T locs cells slots) (hexec : p.tables.exec = Jvm.exec) {own : String} {index : Nat} {host : String} {y : MethodName} {bytes : ByteArray} {maxL : Nat} {ret : Option FieldType}
    (hown : s.vm.findClass own = some m.cls) (hlink : (Cond.methodLinkNest own index y host).before args s = true) (hstat : (Cond.static y).before args s = true) (hinit : (Cond.initialized y.cls).before args s = true)
    (hcode : (Cond.code y bytes maxL ret).before args s = true) (hy : y.cls ≠ "java/lang/invoke/MethodHandle" ∧ y.cls ≠ "java/lang/invoke/VarHandle")
    {W : Nat} {Pre : Pt → Array Value → Prop} {Post : Pt → Array Value → Option Value → Pt → Prop} {PostX : Pt → Array Value → Addr → Pt → Prop} (hK : vx_Back l R p e below s args y 3 W Pre Post PostX)
    {g : JFrame} (hg : g.method = m) (hsize : g.locals.size = c.maxLocals) {argsL rest : List Value} (hlen : ∀ sig, parseMethodDescriptor y.desc = some sig → argsL.length = sig.parameters.length)
    (hstack : g.stack = argsL.reverse ++ rest) (hW : 2 * g.monitorRoom + (rest.map fun v => v.category).sum ≤ W) (hdg : decode c.code g.pc = .ok (.invokestatic index, 3))
    (hpre : ∀ vm₁, s.WarmedH vm₁ → Pre ⟨T.setVm vm₁, locs, cells, slots⟩ argsL.toArray) :
    (∃ (v : Option Value) (vm₁ : Vm) (B : Pt), s.WarmedH vm₁ ∧ Stand p l e R s m args below meth c B.U B.locs B.cells B.slots ∧ Post ⟨T.setVm vm₁, locs, cells, slots⟩ argsL.toArray v B ∧
      ∀ target, Steps p.tables e below (B.U.setTop { g with pc := g.pc + 3, stack := v.toList ++ rest }) target → Steps p.tables e below (T.setTop g) target) ∨
    (∃ (q : Addr) (vm₁ : Vm) (B : Pt), s.WarmedH vm₁ ∧ Stand p l e R s m args below meth c B.U B.locs B.cells B.slots ∧ PostX ⟨T.setVm vm₁, locs, cells, slots⟩ argsL.toArray q B ∧
      Steps p.tables e below (T.setTop g) ((B.U.setTop { g with stack := rest }).pushFrame (.throwing q))) := by
  obtain ⟨mk, hnamed⟩ := Cond.code_named hcode
  obtain ⟨methM, cM, hmethM, -, -, -, -, -, -, hsigM⟩ := Cond.code_spec hnamed hcode
  have hstatic : methM.isStatic = true := Cond.static_spec hnamed hmethM hstat
  obtain ⟨kP, hkP, -⟩ := className_of_methodNamed hnamed
  have hinitP : kP.init = .initialized := Cond.initialized_spec (findClass_of_methodNamed hnamed) hkP hinit
  obtain ⟨vm₁, X₁, hstep₁⟩ := X.invokestaticNest hexec hown hlink hnamed hmethM hstatic hkP hinitP hy (g := g) hg (argsL := argsL) (rest := rest) (hlen _ hsigM) hstack hdg
  rcases hK m meth c ⟨T.setVm vm₁, locs, cells, slots⟩ { g with stack := rest } (.invokestatic index) mk argsL.toArray X₁ hg hsize hdg hW (X₁.named hnamed) (hpre vm₁ X₁.warmed) with ⟨v, B, X', hpost, hsteps⟩ | ⟨q, B, X', hpost, hsteps⟩
  · exact Or.inl ⟨v, vm₁, B, X₁.warmed, X', hpost, fun target h => hstep₁ _ fun acts => by rw [doInvoke_state]; exact hsteps.trans h⟩
  · exact Or.inr ⟨q, vm₁, B, X₁.warmed, X', hpost, hstep₁ _ fun acts => by rw [doInvoke_state]; exact hsteps⟩
theorem vx_runVN {y : MethodName} {bytes cc : ByteArray} {maxL nL mc ms n index : Nat} {ret : Option FieldType} {ws : List Cond} {rm : Room} {Pc : Array Value → State → Prop} {Qc : Array Value → State → Outcome → State → Prop} {XC : String → State → State → Prop} {free : Addr → Prop} {Ts : List Cond} {own C host : String} {b : Addr} {As rest : List Value} {g : JFrame}
    (S : CallFix p m c cc nL s args Ts own) (hM : vx_Met l y ws rm Pc Qc XC mc ms free) (cw : va_CN R s args own index y host bytes maxL ret ws rm mc ms n ∧ (Cond.instanceMethod y).before args s = true ∧ (Cond.selects C y y).before args s = true) (hp : PreV s H C b Pc As)
    (hg : g.method = m) (hn : As.length = n) (hsize : g.locals.size = nL) (hstack : g.stack = As.reverse ++ .ref b :: rest) (hW : 2 * g.monitorRoom + (rest.map fun v => v.category).sum ≤ 8) (hdg : decode cc g.pc = .ok (.invokevirtual index, 3)) (hf : cells + mc ≤ R.cells ∧ slots + ms ≤ R.slots) :
    vx_Run p l e R s m args below meth c H locs cells slots mc ms g rest (Qc (Value.ref b :: As).toArray) XC free := by
  obtain ⟨⟨⟨hrc, hrs, hfr, hlo, hws, hcw⟩, hcode, hini, hy, hlen, hl⟩, hx1, hx2⟩ := cw
  have hK : vx_Back l R p e below s args y 3 8 (PreOf R mc ms Pc) (PostOf Qc mc ms free) (vx_Post XC mc ms free) := vx_back (bytes := bytes) (maxL := maxL) (ret := ret) hM hp.1 hrc hrs hfr hlo hws hcw (fun a' U hW => word_at hW (Or.inl (by first | rfl | simp [Cond.onTables, Cond.keeps, Cond.steady])) hini)
  obtain ⟨hx, hb, hml, ho, -⟩ := S
  obtain ⟨-, ⟨cellB, hcB, hoB, hclB⟩, hPc⟩ := hp
  intro T hT X
  rcases vx_callVN X hx (C := C) (bytes := bytes) (maxL := maxL) (ret := ret) ho hl hx1 hx2 hcode hy hK (by rw [hT]; exact hcB) hoB hclB hg (hsize.trans hml.symm) (argsL := As) (rest := rest) (fun sig h => hn.trans (hlen sig h)) hstack hW (by rw [hb]; exact hdg)
    (fun vm₁ hW₁ => ⟨hf.1, hf.2, hPc (T.setVm vm₁) hT hW₁⟩) with ⟨v, vm₁, ⟨U', l2, c2, s2⟩, hW₁, X', ⟨g', mk, t, L, e1, e2, hq, h1, hL, h2, h3⟩, st⟩ | ⟨q, vm₁, ⟨U', l2, c2, s2⟩, hW₁, X', ⟨g', mk, t, L, E, ce, e1, e2, hq, hce, hcv, hcl, h1, hL, h2, h3⟩, st⟩
  · dsimp only [Pt.U, Pt.locs, Pt.cells, Pt.slots] at X' e1 e2 h1 h2 h3 st
    subst h1; subst h2; subst h3
    exact Or.inl ⟨v, (T.setVm vm₁).calling g' mk (Value.ref b :: As).toArray, t, U', L, hT, X', hL, e1, e2, hq, st⟩
  · dsimp only [Pt.U, Pt.locs, Pt.cells, Pt.slots] at X' e1 e2 h1 h2 h3 st hcl
    subst h1; subst h2; subst h3
    exact Or.inr ⟨q, (T.setVm vm₁).calling g' mk (Value.ref b :: As).toArray, t, U', L, E, ce, hT, X', hL, e1, e2, hq, hce, hcv, vx_cls hW₁ hcl, st⟩
theorem vx_runSN {y : MethodName} {bytes cc : ByteArray} {maxL nL mc ms n index : Nat} {ret : Option FieldType} {ws : List Cond} {rm : Room} {Pc : Array Value → State → Prop} {Qc : Array Value → State → Outcome → State → Prop} {XC : String → State → State → Prop} {free : Addr → Prop} {Ts : List Cond} {own host : String} {As rest : List Value} {g : JFrame}
    (S : CallFix p m c cc nL s args Ts own) (hM : vx_Met l y ws rm Pc Qc XC mc ms free) (cw : va_CN R s args own index y host bytes maxL ret ws rm mc ms n ∧ (Cond.static y).before args s = true ∧ True) (hp : PreS s H Pc As)
    (hg : g.method = m) (hn : As.length = n) (hsize : g.locals.size = nL) (hstack : g.stack = As.reverse ++ rest) (hW : 2 * g.monitorRoom + (rest.map fun v => v.category).sum ≤ 8) (hdg : decode cc g.pc = .ok (.invokestatic index, 3)) (hf : cells + mc ≤ R.cells ∧ slots + ms ≤ R.slots) :
    vx_Run p l e R s m args below meth c H locs cells slots mc ms g rest (Qc As.toArray) XC free := by
  obtain ⟨⟨⟨hrc, hrs, hfr, hlo, hws, hcw⟩, hcode, hini, hy, hlen, hl⟩, hx1, hx2⟩ := cw
  have hK : vx_Back l R p e below s args y 3 8 (PreOf R mc ms Pc) (PostOf Qc mc ms free) (vx_Post XC mc ms free) := vx_back (bytes := bytes) (maxL := maxL) (ret := ret) hM hp.1 hrc hrs hfr hlo hws hcw (fun a' U hW => word_at hW (Or.inl (by first | rfl | simp [Cond.onTables, Cond.keeps, Cond.steady])) hini)
  obtain ⟨hx, hb, hml, ho, -⟩ := S
  have hPc := hp.2
  intro T hT X
  rcases vx_callSN X hx (bytes := bytes) (maxL := maxL) (ret := ret) ho hl hx1 hini hcode hy hK hg (hsize.trans hml.symm) (argsL := As) (rest := rest) (fun sig h => hn.trans (hlen sig h)) hstack hW (by rw [hb]; exact hdg)
    (fun vm₁ hW₁ => ⟨hf.1, hf.2, hPc (T.setVm vm₁) hT hW₁⟩) with ⟨v, vm₁, ⟨U', l2, c2, s2⟩, hW₁, X', ⟨g', mk, t, L, e1, e2, hq, h1, hL, h2, h3⟩, st⟩ | ⟨q, vm₁, ⟨U', l2, c2, s2⟩, hW₁, X', ⟨g', mk, t, L, E, ce, e1, e2, hq, hce, hcv, hcl, h1, hL, h2, h3⟩, st⟩
  · dsimp only [Pt.U, Pt.locs, Pt.cells, Pt.slots] at X' e1 e2 h1 h2 h3 st
    subst h1; subst h2; subst h3
    exact Or.inl ⟨v, (T.setVm vm₁).calling g' mk As.toArray, t, U', L, hT, X', hL, e1, e2, hq, st⟩
  · dsimp only [Pt.U, Pt.locs, Pt.cells, Pt.slots] at X' e1 e2 h1 h2 h3 st hcl
    subst h1; subst h2; subst h3
    exact Or.inr ⟨q, (T.setVm vm₁).calling g' mk As.toArray, t, U', L, E, ce, hT, X', hL, e1, e2, hq, hce, hcv, vx_cls hW₁ hcl, st⟩
end
/-! ===== END ===== -/
end
section
def RX0 : String := "Sharedair$Frame"
def TX0 : u_T := fun k => match k with
  | 0 => ("Sharedair$Frame", "from", "I", false)
  | 1 => ("Sharedair$Frame", "to", "I", false)
  | 2 => ("Sharedair$Frame", "length", "I", false)
  | 3 => ("Sharedair$Frame", "number", "I", false)
  | _ => ("Sharedair$Frame", "hops", "I", false)
def tyX0 : Nat → FieldType := fun k => match k with
  | 0 => .int
  | 1 => .int
  | 2 => .int
  | 3 => .int
  | _ => .int
theorem nmX0 : ∀ a, a < 5 → ∀ b, b < 5 → a ≠ b → (TX0 a).2.1 ≠ (TX0 b).2.1 := by decide +kernel
theorem tyX0_ok : ∀ k, k < 5 → parseFieldDescriptor (TX0 k).2.2.1 = some (tyX0 k) := by decide +kernel
abbrev cX0_init : ByteArray := prog_2_method_1_code
def yX0_init : MethodName := ⟨RX0, "<init>", "()V"⟩
def RX1 : String := "Sharedair$FrameQueue"
def TX1 : u_T := fun k => match k with
  | 0 => ("Sharedair$FrameQueue", "frames", "[LSharedair$Frame;", true)
  | _ => ("Sharedair$FrameQueue", "size", "I", false)
def tyX1 : Nat → FieldType := fun k => match k with
  | 0 => .array (.object "Sharedair$Frame")
  | _ => .int
theorem nmX1 : ∀ a, a < 2 → ∀ b, b < 2 → a ≠ b → (TX1 a).2.1 ≠ (TX1 b).2.1 := by decide +kernel
theorem tyX1_ok : ∀ k, k < 2 → parseFieldDescriptor (TX1 k).2.2.1 = some (tyX1 k) := by decide +kernel
abbrev cX1_init : ByteArray := prog_3_method_1_code
def yX1_init : MethodName := ⟨RX1, "<init>", "()V"⟩
abbrev cX1_at : ByteArray := prog_3_method_2_code
def yX1_at : MethodName := ⟨RX1, "at", "(I)LSharedair$Frame;"⟩
abbrev cX1_add : ByteArray := prog_3_method_3_code
def yX1_add : MethodName := ⟨RX1, "add", "(IIIII)Z"⟩
abbrev cX1_removeFirst : ByteArray := prog_3_method_4_code
def yX1_removeFirst : MethodName := ⟨RX1, "removeFirst", "()V"⟩
def RX2 : String := "Sharedair$Land"
def TX2 : u_T := fun k => match k with
  | 0 => ("Sharedair$Land", "nodes", "[LSharedair$Node;", true)
  | 1 => ("Sharedair$Land", "hearers", "[I", true)
  | _ => ("Sharedair$Land", "count", "I", false)
def tyX2 : Nat → FieldType := fun k => match k with
  | 0 => .array (.object "Sharedair$Node")
  | 1 => .array .int
  | _ => .int
theorem nmX2 : ∀ a, a < 3 → ∀ b, b < 3 → a ≠ b → (TX2 a).2.1 ≠ (TX2 b).2.1 := by decide +kernel
theorem tyX2_ok : ∀ k, k < 3 → parseFieldDescriptor (TX2 k).2.2.1 = some (tyX2 k) := by decide +kernel
abbrev cX2_init : ByteArray := prog_4_method_1_code
def yX2_init : MethodName := ⟨RX2, "<init>", "()V"⟩
abbrev cX2_isNode : ByteArray := prog_4_method_2_code
def yX2_isNode : MethodName := ⟨RX2, "isNode", "(I)Z"⟩
abbrev cX2_everyone : ByteArray := prog_4_method_3_code
def yX2_everyone : MethodName := ⟨RX2, "everyone", "()I"⟩
abbrev cX2_add : ByteArray := prog_4_method_4_code
def yX2_add : MethodName := ⟨RX2, "add", "(IIIZ)I"⟩
abbrev cX2_put : ByteArray := prog_4_method_5_code
def yX2_put : MethodName := ⟨RX2, "put", "(III)V"⟩
abbrev cX2_adjust : ByteArray := prog_4_method_6_code
def yX2_adjust : MethodName := ⟨RX2, "adjust", "(IIZ)V"⟩
abbrev cX2_findHearers : ByteArray := prog_4_method_7_code
def yX2_findHearers : MethodName := ⟨RX2, "findHearers", "()V"⟩
abbrev cX2_far : ByteArray := prog_4_method_8_code
def yX2_far : MethodName := ⟨RX2, "far", "(II)I"⟩
abbrev cX2_canHear : ByteArray := prog_4_method_9_code
def yX2_canHear : MethodName := ⟨RX2, "canHear", "(II)Z"⟩
abbrev cX2_areLinked : ByteArray := prog_4_method_10_code
def yX2_areLinked : MethodName := ⟨RX2, "areLinked", "(II)Z"⟩
abbrev cX2_linkedWith : ByteArray := prog_4_method_11_code
def yX2_linkedWith : MethodName := ⟨RX2, "linkedWith", "(I)I"⟩
abbrev cX2_hearsOneOf : ByteArray := prog_4_method_12_code
def yX2_hearsOneOf : MethodName := ⟨RX2, "hearsOneOf", "(II)Z"⟩
abbrev cX2_gets : ByteArray := prog_4_method_13_code
def yX2_gets : MethodName := ⟨RX2, "gets", "(III)Z"⟩
abbrev cX2_framesInQueues : ByteArray := prog_4_method_14_code
def yX2_framesInQueues : MethodName := ⟨RX2, "framesInQueues", "()I"⟩
abbrev cX2_isSuspect : ByteArray := prog_4_method_15_code
def yX2_isSuspect : MethodName := ⟨RX2, "isSuspect", "(I)Z"⟩
abbrev cX2_fewestCovering : ByteArray := prog_4_method_16_code
def yX2_fewestCovering : MethodName := ⟨RX2, "fewestCovering", "()I"⟩
abbrev cX2_isCovering : ByteArray := prog_4_method_17_code
def yX2_isCovering : MethodName := ⟨RX2, "isCovering", "(I)Z"⟩
def RX3 : String := "Sharedair$Market"
def TX3 : u_T := fun k => match k with
  | 0 => ("Sharedair$Market", "bidders", "[I", true)
  | 1 => ("Sharedair$Market", "prices", "[I", true)
  | 2 => ("Sharedair$Market", "taken", "[I", true)
  | 3 => ("Sharedair$Market", "worth", "[I", true)
  | 4 => ("Sharedair$Market", "worthWithout", "[I", true)
  | 5 => ("Sharedair$Market", "count", "I", false)
  | 6 => ("Sharedair$Market", "winners", "I", false)
  | 7 => ("Sharedair$Market", "mostWorth", "I", false)
  | _ => ("Sharedair$Market", "paidEver", "I", false)
def tyX3 : Nat → FieldType := fun k => match k with
  | 0 => .array .int
  | 1 => .array .int
  | 2 => .array .int
  | 3 => .array .int
  | 4 => .array .int
  | 5 => .int
  | 6 => .int
  | 7 => .int
  | _ => .int
theorem nmX3 : ∀ a, a < 9 → ∀ b, b < 9 → a ≠ b → (TX3 a).2.1 ≠ (TX3 b).2.1 := by decide +kernel
theorem tyX3_ok : ∀ k, k < 9 → parseFieldDescriptor (TX3 k).2.2.1 = some (tyX3 k) := by decide +kernel
abbrev cX3_init : ByteArray := prog_5_method_1_code
def yX3_init : MethodName := ⟨RX3, "<init>", "()V"⟩
abbrev cX3_add : ByteArray := prog_5_method_2_code
def yX3_add : MethodName := ⟨RX3, "add", "(III)I"⟩
abbrev cX3_weigh : ByteArray := prog_5_method_3_code
def yX3_weigh : MethodName := ⟨RX3, "weigh", "(I)V"⟩
abbrev cX3_winningPrice : ByteArray := prog_5_method_4_code
def yX3_winningPrice : MethodName := ⟨RX3, "winningPrice", "(I)I"⟩
abbrev cX3_paidBy : ByteArray := prog_5_method_5_code
def yX3_paidBy : MethodName := ⟨RX3, "paidBy", "(I)I"⟩
abbrev cX3_nobodyOverpays : ByteArray := prog_5_method_6_code
def yX3_nobodyOverpays : MethodName := ⟨RX3, "nobodyOverpays", "()Z"⟩
abbrev cX3_sellAll : ByteArray := prog_5_method_7_code
def yX3_sellAll : MethodName := ⟨RX3, "sellAll", "()I"⟩
abbrev cX3_forgetBids : ByteArray := prog_5_method_8_code
def yX3_forgetBids : MethodName := ⟨RX3, "forgetBids", "()V"⟩
def RX4 : String := "Sharedair$Node"
def TX4 : u_T := fun k => match k with
  | 0 => ("Sharedair$Node", "x", "I", false)
  | 1 => ("Sharedair$Node", "y", "I", false)
  | 2 => ("Sharedair$Node", "reach", "I", false)
  | 3 => ("Sharedair$Node", "isCheat", "Z", false)
  | 4 => ("Sharedair$Node", "queue", "LSharedair$FrameQueue;", true)
  | 5 => ("Sharedair$Node", "waiting", "I", false)
  | 6 => ("Sharedair$Node", "tries", "I", false)
  | 7 => ("Sharedair$Node", "toCome", "I", false)
  | 8 => ("Sharedair$Node", "next", "I", false)
  | 9 => ("Sharedair$Node", "nextGotAll", "Z", false)
  | 10 => ("Sharedair$Node", "slotsSent", "I", false)
  | 11 => ("Sharedair$Node", "starts", "I", false)
  | 12 => ("Sharedair$Node", "patience", "I", false)
  | 13 => ("Sharedair$Node", "repeats", "I", false)
  | 14 => ("Sharedair$Node", "sent", "I", false)
  | _ => ("Sharedair$Node", "arrivals", "LSharedair$NumberSet;", true)
def tyX4 : Nat → FieldType := fun k => match k with
  | 0 => .int
  | 1 => .int
  | 2 => .int
  | 3 => .boolean
  | 4 => .object "Sharedair$FrameQueue"
  | 5 => .int
  | 6 => .int
  | 7 => .int
  | 8 => .int
  | 9 => .boolean
  | 10 => .int
  | 11 => .int
  | 12 => .int
  | 13 => .int
  | 14 => .int
  | _ => .object "Sharedair$NumberSet"
theorem nmX4 : ∀ a, a < 16 → ∀ b, b < 16 → a ≠ b → (TX4 a).2.1 ≠ (TX4 b).2.1 := by decide +kernel
theorem tyX4_ok : ∀ k, k < 16 → parseFieldDescriptor (TX4 k).2.2.1 = some (tyX4 k) := by decide +kernel
abbrev cX4_init : ByteArray := prog_6_method_1_code
def yX4_init : MethodName := ⟨RX4, "<init>", "()V"⟩
abbrev cX4_isSending : ByteArray := prog_6_method_2_code
def yX4_isSending : MethodName := ⟨RX4, "isSending", "()Z"⟩
abbrev cX4_begin : ByteArray := prog_6_method_3_code
def yX4_begin : MethodName := ⟨RX4, "begin", "(II)V"⟩
abbrev cX4_finishFirst : ByteArray := prog_6_method_4_code
def yX4_finishFirst : MethodName := ⟨RX4, "finishFirst", "()V"⟩
abbrev cX4_waitAgain : ByteArray := prog_6_method_5_code
def yX4_waitAgain : MethodName := ⟨RX4, "waitAgain", "(I)V"⟩
abbrev cX4_isInOrder : ByteArray := prog_6_method_7_code
def yX4_isInOrder : MethodName := ⟨RX4, "isInOrder", "()Z"⟩
def RX5 : String := "Sharedair$NumberSet"
def TX5 : u_T := fun k => match k with
  | _ => ("Sharedair$NumberSet", "bits", "[J", true)
def tyX5 : Nat → FieldType := fun k => match k with
  | _ => .array .long
theorem nmX5 : ∀ a, a < 1 → ∀ b, b < 1 → a ≠ b → (TX5 a).2.1 ≠ (TX5 b).2.1 := by decide +kernel
theorem tyX5_ok : ∀ k, k < 1 → parseFieldDescriptor (TX5 k).2.2.1 = some (tyX5 k) := by decide +kernel
abbrev cX5_init : ByteArray := prog_7_method_1_code
def yX5_init : MethodName := ⟨RX5, "<init>", "()V"⟩
abbrev cX5_has : ByteArray := prog_7_method_2_code
def yX5_has : MethodName := ⟨RX5, "has", "(I)Z"⟩
abbrev cX5_put : ByteArray := prog_7_method_3_code
def yX5_put : MethodName := ⟨RX5, "put", "(I)V"⟩
abbrev cX5_size : ByteArray := prog_7_method_4_code
def yX5_size : MethodName := ⟨RX5, "size", "()I"⟩
def RX6 : String := "Sharedair$Routes"
def TX6 : u_T := fun k => match k with
  | 0 => ("Sharedair$Routes", "land", "LSharedair$Land;", true)
  | 1 => ("Sharedair$Routes", "costs", "[[I", false)
  | 2 => ("Sharedair$Routes", "nexts", "[[I", false)
  | 3 => ("Sharedair$Routes", "newCosts", "[[I", false)
  | 4 => ("Sharedair$Routes", "newNexts", "[[I", false)
  | _ => ("Sharedair$Routes", "exchanges", "I", false)
def tyX6 : Nat → FieldType := fun k => match k with
  | 0 => .object "Sharedair$Land"
  | 1 => .array (.array .int)
  | 2 => .array (.array .int)
  | 3 => .array (.array .int)
  | 4 => .array (.array .int)
  | _ => .int
theorem nmX6 : ∀ a, a < 6 → ∀ b, b < 6 → a ≠ b → (TX6 a).2.1 ≠ (TX6 b).2.1 := by decide +kernel
theorem tyX6_ok : ∀ k, k < 6 → parseFieldDescriptor (TX6 k).2.2.1 = some (tyX6 k) := by decide +kernel
abbrev cX6_init : ByteArray := prog_8_method_1_code
def yX6_init : MethodName := ⟨RX6, "<init>", "(LSharedair$Land;)V"⟩
abbrev cX6_costOf : ByteArray := prog_8_method_2_code
def yX6_costOf : MethodName := ⟨RX6, "costOf", "(II)I"⟩
abbrev cX6_nextOf : ByteArray := prog_8_method_3_code
def yX6_nextOf : MethodName := ⟨RX6, "nextOf", "(II)I"⟩
abbrev cX6_renew : ByteArray := prog_8_method_4_code
def yX6_renew : MethodName := ⟨RX6, "renew", "()V"⟩
abbrev cX6_renewPair : ByteArray := prog_8_method_5_code
def yX6_renewPair : MethodName := ⟨RX6, "renewPair", "(II)V"⟩
abbrev cX6_cheapestNeighbour : ByteArray := prog_8_method_6_code
def yX6_cheapestNeighbour : MethodName := ⟨RX6, "cheapestNeighbour", "(II)I"⟩
abbrev cX6_wayLength : ByteArray := prog_8_method_7_code
def yX6_wayLength : MethodName := ⟨RX6, "wayLength", "(II)I"⟩
abbrev cX6_hasCircle : ByteArray := prog_8_method_8_code
def yX6_hasCircle : MethodName := ⟨RX6, "hasCircle", "(II)Z"⟩
abbrev cX6_follow : ByteArray := prog_8_method_9_code
def yX6_follow : MethodName := ⟨RX6, "follow", "(II)I"⟩
abbrev cX6_pairsWithRoute : ByteArray := prog_8_method_10_code
def yX6_pairsWithRoute : MethodName := ⟨RX6, "pairsWithRoute", "()I"⟩
abbrev cX6_pairsWithCircle : ByteArray := prog_8_method_11_code
def yX6_pairsWithCircle : MethodName := ⟨RX6, "pairsWithCircle", "()I"⟩
abbrev cX6_areInOrder : ByteArray := prog_8_method_12_code
def yX6_areInOrder : MethodName := ⟨RX6, "areInOrder", "(I)Z"⟩
def RX7 : String := "Sharedair$Traffic"
def TX7 : u_T := fun k => match k with
  | 0 => ("Sharedair$Traffic", "land", "LSharedair$Land;", true)
  | 1 => ("Sharedair$Traffic", "routes", "LSharedair$Routes;", true)
  | 2 => ("Sharedair$Traffic", "slot", "I", false)
  | 3 => ("Sharedair$Traffic", "luck", "I", false)
  | 4 => ("Sharedair$Traffic", "deliveries", "I", false)
  | 5 => ("Sharedair$Traffic", "doubles", "I", false)
  | _ => ("Sharedair$Traffic", "dropped", "I", false)
def tyX7 : Nat → FieldType := fun k => match k with
  | 0 => .object "Sharedair$Land"
  | 1 => .object "Sharedair$Routes"
  | 2 => .int
  | 3 => .int
  | 4 => .int
  | 5 => .int
  | _ => .int
theorem nmX7 : ∀ a, a < 7 → ∀ b, b < 7 → a ≠ b → (TX7 a).2.1 ≠ (TX7 b).2.1 := by decide +kernel
theorem tyX7_ok : ∀ k, k < 7 → parseFieldDescriptor (TX7 k).2.2.1 = some (tyX7 k) := by decide +kernel
abbrev cX7_init : ByteArray := prog_9_method_1_code
def yX7_init : MethodName := ⟨RX7, "<init>", "(LSharedair$Land;LSharedair$Routes;)V"⟩
abbrev cX7_senders : ByteArray := prog_9_method_2_code
def yX7_senders : MethodName := ⟨RX7, "senders", "()I"⟩
abbrev cX7_goBy : ByteArray := prog_9_method_3_code
def yX7_goBy : MethodName := ⟨RX7, "goBy", "()V"⟩
abbrev cX7_takeTurn : ByteArray := prog_9_method_4_code
def yX7_takeTurn : MethodName := ⟨RX7, "takeTurn", "(I)V"⟩
abbrev cX7_goOn : ByteArray := prog_9_method_5_code
def yX7_goOn : MethodName := ⟨RX7, "goOn", "(II)V"⟩
abbrev cX7_end : ByteArray := prog_9_method_6_code
def yX7_end : MethodName := ⟨RX7, "end", "(I)V"⟩
abbrev cX7_tryAgain : ByteArray := prog_9_method_7_code
def yX7_tryAgain : MethodName := ⟨RX7, "tryAgain", "(LSharedair$Node;)V"⟩
abbrev cX7_receive : ByteArray := prog_9_method_8_code
def yX7_receive : MethodName := ⟨RX7, "receive", "(ILSharedair$Frame;)V"⟩
abbrev cX7_pushCopy : ByteArray := prog_9_method_9_code
def yX7_pushCopy : MethodName := ⟨RX7, "pushCopy", "(LSharedair$FrameQueue;LSharedair$Frame;)Z"⟩
abbrev cX7_arrive : ByteArray := prog_9_method_10_code
def yX7_arrive : MethodName := ⟨RX7, "arrive", "(LSharedair$Frame;)V"⟩
abbrev cX7_dropFirst : ByteArray := prog_9_method_11_code
def yX7_dropFirst : MethodName := ⟨RX7, "dropFirst", "(LSharedair$Node;)V"⟩
abbrev cX7_draw : ByteArray := prog_9_method_12_code
def yX7_draw : MethodName := ⟨RX7, "draw", "(I)I"⟩
def RX8 : String := "Sharedair"
def TX8 : u_T := fun k => match k with
  | 0 => ("Sharedair", "land", "LSharedair$Land;", true)
  | 1 => ("Sharedair", "routes", "LSharedair$Routes;", true)
  | 2 => ("Sharedair", "traffic", "LSharedair$Traffic;", true)
  | 3 => ("Sharedair", "market", "LSharedair$Market;", true)
  | _ => ("Sharedair", "refused", "I", false)
def tyX8 : Nat → FieldType := fun k => match k with
  | 0 => .object "Sharedair$Land"
  | 1 => .object "Sharedair$Routes"
  | 2 => .object "Sharedair$Traffic"
  | 3 => .object "Sharedair$Market"
  | _ => .int
theorem nmX8 : ∀ a, a < 5 → ∀ b, b < 5 → a ≠ b → (TX8 a).2.1 ≠ (TX8 b).2.1 := by decide +kernel
theorem tyX8_ok : ∀ k, k < 5 → parseFieldDescriptor (TX8 k).2.2.1 = some (tyX8 k) := by decide +kernel
abbrev cX8_init : ByteArray := prog_1_method_1_code
def yX8_init : MethodName := ⟨RX8, "<init>", "()V"⟩
abbrev cX8_node : ByteArray := prog_1_method_2_code
def yX8_node : MethodName := ⟨RX8, "node", "(IIIZ)I"⟩
abbrev cX8_move : ByteArray := prog_1_method_3_code
def yX8_move : MethodName := ⟨RX8, "move", "(III)I"⟩
abbrev cX8_tune : ByteArray := prog_1_method_4_code
def yX8_tune : MethodName := ⟨RX8, "tune", "(IIZ)I"⟩
abbrev cX8_send : ByteArray := prog_1_method_5_code
def yX8_send : MethodName := ⟨RX8, "send", "(III)I"⟩
abbrev cX8_pass : ByteArray := prog_1_method_6_code
def yX8_pass : MethodName := ⟨RX8, "pass", "(I)I"⟩
abbrev cX8_exchange : ByteArray := prog_1_method_7_code
def yX8_exchange : MethodName := ⟨RX8, "exchange", "(I)I"⟩
abbrev cX8_bid : ByteArray := prog_1_method_8_code
def yX8_bid : MethodName := ⟨RX8, "bid", "(III)I"⟩
abbrev cX8_sell : ByteArray := prog_1_method_9_code
def yX8_sell : MethodName := ⟨RX8, "sell", "()I"⟩
abbrev cX8_hears : ByteArray := prog_1_method_11_code
def yX8_hears : MethodName := ⟨RX8, "hears", "(II)Z"⟩
abbrev cX8_ofNode : ByteArray := prog_1_method_12_code
def yX8_ofNode : MethodName := ⟨RX8, "ofNode", "(II)I"⟩
abbrev cX8_inQueue : ByteArray := prog_1_method_13_code
def yX8_inQueue : MethodName := ⟨RX8, "inQueue", "(III)I"⟩
abbrev cX8_route : ByteArray := prog_1_method_14_code
def yX8_route : MethodName := ⟨RX8, "route", "(III)I"⟩
abbrev cX8_air : ByteArray := prog_1_method_15_code
def yX8_air : MethodName := ⟨RX8, "air", "(I)I"⟩
abbrev cX8_delivered : ByteArray := prog_1_method_16_code
def yX8_delivered : MethodName := ⟨RX8, "delivered", "(II)Z"⟩
abbrev cX8_fairness : ByteArray := prog_1_method_17_code
def yX8_fairness : MethodName := ⟨RX8, "fairness", "()D"⟩
abbrev cX8_would : ByteArray := prog_1_method_19_code
def yX8_would : MethodName := ⟨RX8, "would", "(II)I"⟩
abbrev cX8_auction : ByteArray := prog_1_method_22_code
def yX8_auction : MethodName := ⟨RX8, "auction", "(I)I"⟩
abbrev cX8_cover : ByteArray := prog_1_method_23_code
def yX8_cover : MethodName := ⟨RX8, "cover", "()I"⟩
abbrev cX8_isSound : ByteArray := prog_1_method_24_code
def yX8_isSound : MethodName := ⟨RX8, "isSound", "()Z"⟩
abbrev cX8_digest : ByteArray := prog_1_method_25_code
def yX8_digest : MethodName := ⟨RX8, "digest", "()J"⟩
abbrev cX8_mixNode : ByteArray := prog_1_method_26_code
def yX8_mixNode : MethodName := ⟨RX8, "mixNode", "(JI)J"⟩
abbrev cX8_mix : ByteArray := prog_1_method_27_code
def yX8_mix : MethodName := ⟨RX8, "mix", "(JJ)J"⟩
abbrev cX8_checkNode : ByteArray := prog_1_method_28_code
def yX8_checkNode : MethodName := ⟨RX8, "checkNode", "(I)V"⟩
abbrev cX8_checkPair : ByteArray := prog_1_method_29_code
def yX8_checkPair : MethodName := ⟨RX8, "checkPair", "(II)V"⟩
abbrev cX8_checkSilent : ByteArray := prog_1_method_30_code
def yX8_checkSilent : MethodName := ⟨RX8, "checkSilent", "(I)V"⟩
abbrev cX8_isWithin : ByteArray := prog_1_method_31_code
def yX8_isWithin : MethodName := ⟨RX8, "isWithin", "(III)Z"⟩
abbrev cX8_isPlace : ByteArray := prog_1_method_32_code
def yX8_isPlace : MethodName := ⟨RX8, "isPlace", "(II)Z"⟩
abbrev cX8_isReach : ByteArray := prog_1_method_33_code
def yX8_isReach : MethodName := ⟨RX8, "isReach", "(I)Z"⟩
abbrev cX8_isIn : ByteArray := prog_1_method_34_code
def yX8_isIn : MethodName := ⟨RX8, "isIn", "(II)Z"⟩
def RX9 : String := "SharedairModel$Node"
def TX9 : u_T := fun k => match k with
  | _ => ("", "", "", false)
def tyX9 : Nat → FieldType := fun k => match k with
  | _ => .int
theorem nmX9 : ∀ a, a < 0 → ∀ b, b < 0 → a ≠ b → (TX9 a).2.1 ≠ (TX9 b).2.1 := by decide +kernel
theorem tyX9_ok : ∀ k, k < 0 → parseFieldDescriptor (TX9 k).2.2.1 = some (tyX9 k) := by decide +kernel
def RX10 : String := "SharedairModel"
def TX10 : u_T := fun k => match k with
  | _ => ("", "", "", false)
def tyX10 : Nat → FieldType := fun k => match k with
  | _ => .int
theorem nmX10 : ∀ a, a < 0 → ∀ b, b < 0 → a ≠ b → (TX10 a).2.1 ≠ (TX10 b).2.1 := by decide +kernel
theorem tyX10_ok : ∀ k, k < 0 → parseFieldDescriptor (TX10 k).2.2.1 = some (tyX10 k) := by decide +kernel
def RJx145de : String := "java/io/Serializable"
def TJx145de : u_T := fun k => match k with
  | _ => ("", "", "", false)
def tyJx145de : Nat → FieldType := fun k => match k with
  | _ => .int
theorem nmJx145de : ∀ a, a < 0 → ∀ b, b < 0 → a ≠ b → (TJx145de a).2.1 ≠ (TJx145de b).2.1 := by decide +kernel
theorem tyJx145de_ok : ∀ k, k < 0 → parseFieldDescriptor (TJx145de k).2.2.1 = some (tyJx145de k) := by decide +kernel
def RJ6 : String := "java/lang/Integer"
def TJ6 : u_T := fun k => match k with
  | _ => ("", "", "", false)
def tyJ6 : Nat → FieldType := fun k => match k with
  | _ => .int
theorem nmJ6 : ∀ a, a < 0 → ∀ b, b < 0 → a ≠ b → (TJ6 a).2.1 ≠ (TJ6 b).2.1 := by decide +kernel
theorem tyJ6_ok : ∀ k, k < 0 → parseFieldDescriptor (TJ6 k).2.2.1 = some (tyJ6 k) := by decide +kernel
abbrev cJ6_bitCount_0f7a4 : ByteArray := prog_17_method_49_code
def yJ6_bitCount_0f7a4 : MethodName := ⟨RJ6, "bitCount", "(I)I"⟩
def RJ13 : String := "java/lang/Long"
def TJ13 : u_T := fun k => match k with
  | _ => ("", "", "", false)
def tyJ13 : Nat → FieldType := fun k => match k with
  | _ => .int
theorem nmJ13 : ∀ a, a < 0 → ∀ b, b < 0 → a ≠ b → (TJ13 a).2.1 ≠ (TJ13 b).2.1 := by decide +kernel
theorem tyJ13_ok : ∀ k, k < 0 → parseFieldDescriptor (TJ13 k).2.2.1 = some (tyJ13 k) := by decide +kernel
abbrev cJ13_bitCount_95d88 : ByteArray := prog_18_method_50_code
def yJ13_bitCount_95d88 : MethodName := ⟨RJ13, "bitCount", "(J)I"⟩
def RJ0 : String := "java/lang/String"
def TJ0 : u_T := fun k => match k with
  | _ => ("", "", "", false)
def tyJ0 : Nat → FieldType := fun k => match k with
  | _ => .int
theorem nmJ0 : ∀ a, a < 0 → ∀ b, b < 0 → a ≠ b → (TJ0 a).2.1 ≠ (TJ0 b).2.1 := by decide +kernel
theorem tyJ0_ok : ∀ k, k < 0 → parseFieldDescriptor (TJ0 k).2.2.1 = some (tyJ0 k) := by decide +kernel
def RL : String := "SharedairLaw"
abbrev cL_below : ByteArray := method_2_code
def yL_below : MethodName := ⟨RL, "below", "(II)I"⟩
abbrev cL_cell : ByteArray := method_3_code
def yL_cell : MethodName := ⟨RL, "cell", "([II)I"⟩
abbrev cL_law : ByteArray := code
def yL_law : MethodName := ⟨RL, "law", "([I)Z"⟩
abbrev cL_act : ByteArray := method_5_code
def yL_act : MethodName := ⟨RL, "act", "(LSharedair;III)V"⟩
abbrev cL_isAsked : ByteArray := method_6_code
def yL_isAsked : MethodName := ⟨RL, "isAsked", "(LSharedair;III)Z"⟩
theorem dX0_init_0 : decode cX0_init 0 = .ok (.aload_n 0, 1) := by decide +kernel
theorem dX0_init_1 : decode cX0_init 1 = .ok (.invokespecial 1, 3) := by decide +kernel
theorem dX0_init_4 : decode cX0_init 4 = .ok (.aload_n 0, 1) := by decide +kernel
theorem dX0_init_5 : decode cX0_init 5 = .ok (.iconst 0, 1) := by decide +kernel
theorem dX0_init_6 : decode cX0_init 6 = .ok (.putfield 7, 3) := by decide +kernel
theorem dX0_init_9 : decode cX0_init 9 = .ok (.aload_n 0, 1) := by decide +kernel
theorem dX0_init_10 : decode cX0_init 10 = .ok (.iconst 0, 1) := by decide +kernel
theorem dX0_init_11 : decode cX0_init 11 = .ok (.putfield 13, 3) := by decide +kernel
theorem dX0_init_14 : decode cX0_init 14 = .ok (.aload_n 0, 1) := by decide +kernel
theorem dX0_init_15 : decode cX0_init 15 = .ok (.iconst 0, 1) := by decide +kernel
theorem dX0_init_16 : decode cX0_init 16 = .ok (.putfield 16, 3) := by decide +kernel
theorem dX0_init_19 : decode cX0_init 19 = .ok (.aload_n 0, 1) := by decide +kernel
theorem dX0_init_20 : decode cX0_init 20 = .ok (.iconst 0, 1) := by decide +kernel
theorem dX0_init_21 : decode cX0_init 21 = .ok (.putfield 19, 3) := by decide +kernel
theorem dX0_init_24 : decode cX0_init 24 = .ok (.aload_n 0, 1) := by decide +kernel
theorem dX0_init_25 : decode cX0_init 25 = .ok (.iconst 0, 1) := by decide +kernel
theorem dX0_init_26 : decode cX0_init 26 = .ok (.putfield 22, 3) := by decide +kernel
theorem dX0_init_29 : decode cX0_init 29 = .ok (.return_, 1) := by decide +kernel
theorem dX1_init_0 : decode cX1_init 0 = .ok (.aload_n 0, 1) := by decide +kernel
theorem dX1_init_1 : decode cX1_init 1 = .ok (.invokespecial 3, 3) := by decide +kernel
theorem dX1_init_4 : decode cX1_init 4 = .ok (.aload_n 0, 1) := by decide +kernel
theorem dX1_init_5 : decode cX1_init 5 = .ok (.iconst 4, 1) := by decide +kernel
theorem dX1_init_6 : decode cX1_init 6 = .ok (.anewarray 9, 3) := by decide +kernel
theorem dX1_init_9 : decode cX1_init 9 = .ok (.putfield 11, 3) := by decide +kernel
theorem dX1_init_12 : decode cX1_init 12 = .ok (.aload_n 0, 1) := by decide +kernel
theorem dX1_init_13 : decode cX1_init 13 = .ok (.iconst 0, 1) := by decide +kernel
theorem dX1_init_14 : decode cX1_init 14 = .ok (.putfield 17, 3) := by decide +kernel
theorem dX1_init_17 : decode cX1_init 17 = .ok (.iconst 0, 1) := by decide +kernel
theorem dX1_init_18 : decode cX1_init 18 = .ok (.istore_n 1, 1) := by decide +kernel
theorem dX1_init_19 : decode cX1_init 19 = .ok (.iload_n 1, 1) := by decide +kernel
theorem dX1_init_20 : decode cX1_init 20 = .ok (.iconst 4, 1) := by decide +kernel
theorem dX1_init_21 : decode cX1_init 21 = .ok (.if_icmp .ge 22, 3) := by decide +kernel
theorem dX1_init_24 : decode cX1_init 24 = .ok (.aload_n 0, 1) := by decide +kernel
theorem dX1_init_25 : decode cX1_init 25 = .ok (.getfield 11, 3) := by decide +kernel
theorem dX1_init_28 : decode cX1_init 28 = .ok (.iload_n 1, 1) := by decide +kernel
theorem dX1_init_29 : decode cX1_init 29 = .ok (.new 9, 3) := by decide +kernel
theorem dX1_init_32 : decode cX1_init 32 = .ok (.dup, 1) := by decide +kernel
theorem dX1_init_33 : decode cX1_init 33 = .ok (.invokespecial 21, 3) := by decide +kernel
theorem dX1_init_36 : decode cX1_init 36 = .ok (.aastore, 1) := by decide +kernel
theorem dX1_init_37 : decode cX1_init 37 = .ok (.iinc 1 1, 3) := by decide +kernel
theorem dX1_init_40 : decode cX1_init 40 = .ok (.goto (-21), 3) := by decide +kernel
theorem dX1_init_43 : decode cX1_init 43 = .ok (.return_, 1) := by decide +kernel
theorem dX1_at_0 : decode cX1_at 0 = .ok (.iload_n 1, 1) := by decide +kernel
theorem dX1_at_1 : decode cX1_at 1 = .ok (.ifCond .lt 20, 3) := by decide +kernel
theorem dX1_at_4 : decode cX1_at 4 = .ok (.iload_n 1, 1) := by decide +kernel
theorem dX1_at_5 : decode cX1_at 5 = .ok (.aload_n 0, 1) := by decide +kernel
theorem dX1_at_6 : decode cX1_at 6 = .ok (.getfield 17, 3) := by decide +kernel
theorem dX1_at_9 : decode cX1_at 9 = .ok (.if_icmp .ge 12, 3) := by decide +kernel
theorem dX1_at_12 : decode cX1_at 12 = .ok (.aload_n 0, 1) := by decide +kernel
theorem dX1_at_13 : decode cX1_at 13 = .ok (.getfield 11, 3) := by decide +kernel
theorem dX1_at_16 : decode cX1_at 16 = .ok (.iload_n 1, 1) := by decide +kernel
theorem dX1_at_17 : decode cX1_at 17 = .ok (.aaload, 1) := by decide +kernel
theorem dX1_at_18 : decode cX1_at 18 = .ok (.goto 4, 3) := by decide +kernel
theorem dX1_at_21 : decode cX1_at 21 = .ok (.aconst_null, 1) := by decide +kernel
theorem dX1_at_22 : decode cX1_at 22 = .ok (.areturn, 1) := by decide +kernel
theorem dX1_add_0 : decode cX1_add 0 = .ok (.aload_n 0, 1) := by decide +kernel
theorem dX1_add_1 : decode cX1_add 1 = .ok (.getfield 17, 3) := by decide +kernel
theorem dX1_add_4 : decode cX1_add 4 = .ok (.iconst 4, 1) := by decide +kernel
theorem dX1_add_5 : decode cX1_add 5 = .ok (.if_icmp .lt 5, 3) := by decide +kernel
theorem dX1_add_8 : decode cX1_add 8 = .ok (.iconst 0, 1) := by decide +kernel
theorem dX1_add_9 : decode cX1_add 9 = .ok (.ireturn, 1) := by decide +kernel
theorem dX1_add_10 : decode cX1_add 10 = .ok (.aload_n 0, 1) := by decide +kernel
theorem dX1_add_11 : decode cX1_add 11 = .ok (.getfield 11, 3) := by decide +kernel
theorem dX1_add_14 : decode cX1_add 14 = .ok (.aload_n 0, 1) := by decide +kernel
theorem dX1_add_15 : decode cX1_add 15 = .ok (.getfield 17, 3) := by decide +kernel
theorem dX1_add_18 : decode cX1_add 18 = .ok (.aaload, 1) := by decide +kernel
theorem dX1_add_19 : decode cX1_add 19 = .ok (.astore 6, 2) := by decide +kernel
theorem dX1_add_21 : decode cX1_add 21 = .ok (.aload 6, 2) := by decide +kernel
theorem dX1_add_23 : decode cX1_add 23 = .ok (.iload_n 1, 1) := by decide +kernel
theorem dX1_add_24 : decode cX1_add 24 = .ok (.putfield 22, 3) := by decide +kernel
theorem dX1_add_27 : decode cX1_add 27 = .ok (.aload 6, 2) := by decide +kernel
theorem dX1_add_29 : decode cX1_add 29 = .ok (.iload_n 2, 1) := by decide +kernel
theorem dX1_add_30 : decode cX1_add 30 = .ok (.putfield 25, 3) := by decide +kernel
theorem dX1_add_33 : decode cX1_add 33 = .ok (.aload 6, 2) := by decide +kernel
theorem dX1_add_35 : decode cX1_add 35 = .ok (.iload_n 3, 1) := by decide +kernel
theorem dX1_add_36 : decode cX1_add 36 = .ok (.putfield 28, 3) := by decide +kernel
theorem dX1_add_39 : decode cX1_add 39 = .ok (.aload 6, 2) := by decide +kernel
theorem dX1_add_41 : decode cX1_add 41 = .ok (.iload 4, 2) := by decide +kernel
theorem dX1_add_43 : decode cX1_add 43 = .ok (.putfield 31, 3) := by decide +kernel
theorem dX1_add_46 : decode cX1_add 46 = .ok (.aload 6, 2) := by decide +kernel
theorem dX1_add_48 : decode cX1_add 48 = .ok (.iload 5, 2) := by decide +kernel
theorem dX1_add_50 : decode cX1_add 50 = .ok (.putfield 34, 3) := by decide +kernel
theorem dX1_add_53 : decode cX1_add 53 = .ok (.aload_n 0, 1) := by decide +kernel
theorem dX1_add_54 : decode cX1_add 54 = .ok (.dup, 1) := by decide +kernel
theorem dX1_add_55 : decode cX1_add 55 = .ok (.getfield 17, 3) := by decide +kernel
theorem dX1_add_58 : decode cX1_add 58 = .ok (.iconst 1, 1) := by decide +kernel
theorem dX1_add_59 : decode cX1_add 59 = .ok (.iadd, 1) := by decide +kernel
theorem dX1_add_60 : decode cX1_add 60 = .ok (.putfield 17, 3) := by decide +kernel
theorem dX1_add_63 : decode cX1_add 63 = .ok (.iconst 1, 1) := by decide +kernel
theorem dX1_add_64 : decode cX1_add 64 = .ok (.ireturn, 1) := by decide +kernel
theorem dX1_removeFirst_0 : decode cX1_removeFirst 0 = .ok (.aload_n 0, 1) := by decide +kernel
theorem dX1_removeFirst_1 : decode cX1_removeFirst 1 = .ok (.getfield 17, 3) := by decide +kernel
theorem dX1_removeFirst_4 : decode cX1_removeFirst 4 = .ok (.ifCond .gt 4, 3) := by decide +kernel
theorem dX1_removeFirst_7 : decode cX1_removeFirst 7 = .ok (.return_, 1) := by decide +kernel
theorem dX1_removeFirst_8 : decode cX1_removeFirst 8 = .ok (.aload_n 0, 1) := by decide +kernel
theorem dX1_removeFirst_9 : decode cX1_removeFirst 9 = .ok (.getfield 11, 3) := by decide +kernel
theorem dX1_removeFirst_12 : decode cX1_removeFirst 12 = .ok (.iconst 0, 1) := by decide +kernel
theorem dX1_removeFirst_13 : decode cX1_removeFirst 13 = .ok (.aaload, 1) := by decide +kernel
theorem dX1_removeFirst_14 : decode cX1_removeFirst 14 = .ok (.astore_n 1, 1) := by decide +kernel
theorem dX1_removeFirst_15 : decode cX1_removeFirst 15 = .ok (.iconst 1, 1) := by decide +kernel
theorem dX1_removeFirst_16 : decode cX1_removeFirst 16 = .ok (.istore_n 2, 1) := by decide +kernel
theorem dX1_removeFirst_17 : decode cX1_removeFirst 17 = .ok (.iload_n 2, 1) := by decide +kernel
theorem dX1_removeFirst_18 : decode cX1_removeFirst 18 = .ok (.aload_n 0, 1) := by decide +kernel
theorem dX1_removeFirst_19 : decode cX1_removeFirst 19 = .ok (.getfield 17, 3) := by decide +kernel
theorem dX1_removeFirst_22 : decode cX1_removeFirst 22 = .ok (.if_icmp .ge 23, 3) := by decide +kernel
theorem dX1_removeFirst_25 : decode cX1_removeFirst 25 = .ok (.aload_n 0, 1) := by decide +kernel
theorem dX1_removeFirst_26 : decode cX1_removeFirst 26 = .ok (.getfield 11, 3) := by decide +kernel
theorem dX1_removeFirst_29 : decode cX1_removeFirst 29 = .ok (.iload_n 2, 1) := by decide +kernel
theorem dX1_removeFirst_30 : decode cX1_removeFirst 30 = .ok (.iconst 1, 1) := by decide +kernel
theorem dX1_removeFirst_31 : decode cX1_removeFirst 31 = .ok (.isub, 1) := by decide +kernel
theorem dX1_removeFirst_32 : decode cX1_removeFirst 32 = .ok (.aload_n 0, 1) := by decide +kernel
theorem dX1_removeFirst_33 : decode cX1_removeFirst 33 = .ok (.getfield 11, 3) := by decide +kernel
theorem dX1_removeFirst_36 : decode cX1_removeFirst 36 = .ok (.iload_n 2, 1) := by decide +kernel
theorem dX1_removeFirst_37 : decode cX1_removeFirst 37 = .ok (.aaload, 1) := by decide +kernel
theorem dX1_removeFirst_38 : decode cX1_removeFirst 38 = .ok (.aastore, 1) := by decide +kernel
theorem dX1_removeFirst_39 : decode cX1_removeFirst 39 = .ok (.iinc 2 1, 3) := by decide +kernel
theorem dX1_removeFirst_42 : decode cX1_removeFirst 42 = .ok (.goto (-25), 3) := by decide +kernel
theorem dX1_removeFirst_45 : decode cX1_removeFirst 45 = .ok (.aload_n 0, 1) := by decide +kernel
theorem dX1_removeFirst_46 : decode cX1_removeFirst 46 = .ok (.dup, 1) := by decide +kernel
theorem dX1_removeFirst_47 : decode cX1_removeFirst 47 = .ok (.getfield 17, 3) := by decide +kernel
theorem dX1_removeFirst_50 : decode cX1_removeFirst 50 = .ok (.iconst 1, 1) := by decide +kernel
theorem dX1_removeFirst_51 : decode cX1_removeFirst 51 = .ok (.isub, 1) := by decide +kernel
theorem dX1_removeFirst_52 : decode cX1_removeFirst 52 = .ok (.putfield 17, 3) := by decide +kernel
theorem dX1_removeFirst_55 : decode cX1_removeFirst 55 = .ok (.aload_n 0, 1) := by decide +kernel
theorem dX1_removeFirst_56 : decode cX1_removeFirst 56 = .ok (.getfield 11, 3) := by decide +kernel
theorem dX1_removeFirst_59 : decode cX1_removeFirst 59 = .ok (.aload_n 0, 1) := by decide +kernel
theorem dX1_removeFirst_60 : decode cX1_removeFirst 60 = .ok (.getfield 17, 3) := by decide +kernel
theorem dX1_removeFirst_63 : decode cX1_removeFirst 63 = .ok (.aload_n 1, 1) := by decide +kernel
theorem dX1_removeFirst_64 : decode cX1_removeFirst 64 = .ok (.aastore, 1) := by decide +kernel
theorem dX1_removeFirst_65 : decode cX1_removeFirst 65 = .ok (.return_, 1) := by decide +kernel
theorem dX2_init_0 : decode cX2_init 0 = .ok (.aload_n 0, 1) := by decide +kernel
theorem dX2_init_1 : decode cX2_init 1 = .ok (.invokespecial 3, 3) := by decide +kernel
theorem dX2_init_4 : decode cX2_init 4 = .ok (.aload_n 0, 1) := by decide +kernel
theorem dX2_init_5 : decode cX2_init 5 = .ok (.bipush 8, 2) := by decide +kernel
theorem dX2_init_7 : decode cX2_init 7 = .ok (.anewarray 9, 3) := by decide +kernel
theorem dX2_init_10 : decode cX2_init 10 = .ok (.putfield 11, 3) := by decide +kernel
theorem dX2_init_13 : decode cX2_init 13 = .ok (.aload_n 0, 1) := by decide +kernel
theorem dX2_init_14 : decode cX2_init 14 = .ok (.bipush 8, 2) := by decide +kernel
theorem dX2_init_16 : decode cX2_init 16 = .ok (.newarray .int, 2) := by decide +kernel
theorem dX2_init_18 : decode cX2_init 18 = .ok (.putfield 17, 3) := by decide +kernel
theorem dX2_init_21 : decode cX2_init 21 = .ok (.aload_n 0, 1) := by decide +kernel
theorem dX2_init_22 : decode cX2_init 22 = .ok (.iconst 0, 1) := by decide +kernel
theorem dX2_init_23 : decode cX2_init 23 = .ok (.putfield 21, 3) := by decide +kernel
theorem dX2_init_26 : decode cX2_init 26 = .ok (.iconst 0, 1) := by decide +kernel
theorem dX2_init_27 : decode cX2_init 27 = .ok (.istore_n 1, 1) := by decide +kernel
theorem dX2_init_28 : decode cX2_init 28 = .ok (.iload_n 1, 1) := by decide +kernel
theorem dX2_init_29 : decode cX2_init 29 = .ok (.bipush 8, 2) := by decide +kernel
theorem dX2_init_31 : decode cX2_init 31 = .ok (.if_icmp .ge 22, 3) := by decide +kernel
theorem dX2_init_34 : decode cX2_init 34 = .ok (.aload_n 0, 1) := by decide +kernel
theorem dX2_init_35 : decode cX2_init 35 = .ok (.getfield 11, 3) := by decide +kernel
theorem dX2_init_38 : decode cX2_init 38 = .ok (.iload_n 1, 1) := by decide +kernel
theorem dX2_init_39 : decode cX2_init 39 = .ok (.new 9, 3) := by decide +kernel
theorem dX2_init_42 : decode cX2_init 42 = .ok (.dup, 1) := by decide +kernel
theorem dX2_init_43 : decode cX2_init 43 = .ok (.invokespecial 25, 3) := by decide +kernel
theorem dX2_init_46 : decode cX2_init 46 = .ok (.aastore, 1) := by decide +kernel
theorem dX2_init_47 : decode cX2_init 47 = .ok (.iinc 1 1, 3) := by decide +kernel
theorem dX2_init_50 : decode cX2_init 50 = .ok (.goto (-22), 3) := by decide +kernel
theorem dX2_init_53 : decode cX2_init 53 = .ok (.return_, 1) := by decide +kernel
theorem dX2_isNode_0 : decode cX2_isNode 0 = .ok (.iload_n 1, 1) := by decide +kernel
theorem dX2_isNode_1 : decode cX2_isNode 1 = .ok (.ifCond .lt 15, 3) := by decide +kernel
theorem dX2_isNode_4 : decode cX2_isNode 4 = .ok (.iload_n 1, 1) := by decide +kernel
theorem dX2_isNode_5 : decode cX2_isNode 5 = .ok (.aload_n 0, 1) := by decide +kernel
theorem dX2_isNode_6 : decode cX2_isNode 6 = .ok (.getfield 21, 3) := by decide +kernel
theorem dX2_isNode_9 : decode cX2_isNode 9 = .ok (.if_icmp .ge 7, 3) := by decide +kernel
theorem dX2_isNode_12 : decode cX2_isNode 12 = .ok (.iconst 1, 1) := by decide +kernel
theorem dX2_isNode_13 : decode cX2_isNode 13 = .ok (.goto 4, 3) := by decide +kernel
theorem dX2_isNode_16 : decode cX2_isNode 16 = .ok (.iconst 0, 1) := by decide +kernel
theorem dX2_isNode_17 : decode cX2_isNode 17 = .ok (.ireturn, 1) := by decide +kernel
theorem dX2_everyone_0 : decode cX2_everyone 0 = .ok (.iconst 1, 1) := by decide +kernel
theorem dX2_everyone_1 : decode cX2_everyone 1 = .ok (.aload_n 0, 1) := by decide +kernel
theorem dX2_everyone_2 : decode cX2_everyone 2 = .ok (.getfield 21, 3) := by decide +kernel
theorem dX2_everyone_5 : decode cX2_everyone 5 = .ok (.ishl, 1) := by decide +kernel
theorem dX2_everyone_6 : decode cX2_everyone 6 = .ok (.iconst 1, 1) := by decide +kernel
theorem dX2_everyone_7 : decode cX2_everyone 7 = .ok (.isub, 1) := by decide +kernel
theorem dX2_everyone_8 : decode cX2_everyone 8 = .ok (.ireturn, 1) := by decide +kernel
theorem dX2_add_0 : decode cX2_add 0 = .ok (.aload_n 0, 1) := by decide +kernel
theorem dX2_add_1 : decode cX2_add 1 = .ok (.getfield 21, 3) := by decide +kernel
theorem dX2_add_4 : decode cX2_add 4 = .ok (.istore 5, 2) := by decide +kernel
theorem dX2_add_6 : decode cX2_add 6 = .ok (.aload_n 0, 1) := by decide +kernel
theorem dX2_add_7 : decode cX2_add 7 = .ok (.dup, 1) := by decide +kernel
theorem dX2_add_8 : decode cX2_add 8 = .ok (.getfield 21, 3) := by decide +kernel
theorem dX2_add_11 : decode cX2_add 11 = .ok (.iconst 1, 1) := by decide +kernel
theorem dX2_add_12 : decode cX2_add 12 = .ok (.iadd, 1) := by decide +kernel
theorem dX2_add_13 : decode cX2_add 13 = .ok (.putfield 21, 3) := by decide +kernel
theorem dX2_add_16 : decode cX2_add 16 = .ok (.aload_n 0, 1) := by decide +kernel
theorem dX2_add_17 : decode cX2_add 17 = .ok (.getfield 11, 3) := by decide +kernel
theorem dX2_add_20 : decode cX2_add 20 = .ok (.iload 5, 2) := by decide +kernel
theorem dX2_add_22 : decode cX2_add 22 = .ok (.aaload, 1) := by decide +kernel
theorem dX2_add_23 : decode cX2_add 23 = .ok (.iload_n 1, 1) := by decide +kernel
theorem dX2_add_24 : decode cX2_add 24 = .ok (.putfield 26, 3) := by decide +kernel
theorem dX2_add_27 : decode cX2_add 27 = .ok (.aload_n 0, 1) := by decide +kernel
theorem dX2_add_28 : decode cX2_add 28 = .ok (.getfield 11, 3) := by decide +kernel
theorem dX2_add_31 : decode cX2_add 31 = .ok (.iload 5, 2) := by decide +kernel
theorem dX2_add_33 : decode cX2_add 33 = .ok (.aaload, 1) := by decide +kernel
theorem dX2_add_34 : decode cX2_add 34 = .ok (.iload_n 2, 1) := by decide +kernel
theorem dX2_add_35 : decode cX2_add 35 = .ok (.putfield 29, 3) := by decide +kernel
theorem dX2_add_38 : decode cX2_add 38 = .ok (.aload_n 0, 1) := by decide +kernel
theorem dX2_add_39 : decode cX2_add 39 = .ok (.iload 5, 2) := by decide +kernel
theorem dX2_add_41 : decode cX2_add 41 = .ok (.iload_n 3, 1) := by decide +kernel
theorem dX2_add_42 : decode cX2_add 42 = .ok (.iload 4, 2) := by decide +kernel
theorem dX2_add_44 : decode cX2_add 44 = .ok (.invokevirtual 32, 3) := by decide +kernel
theorem dX2_add_47 : decode cX2_add 47 = .ok (.iload 5, 2) := by decide +kernel
theorem dX2_add_49 : decode cX2_add 49 = .ok (.ireturn, 1) := by decide +kernel
theorem dX2_put_0 : decode cX2_put 0 = .ok (.aload_n 0, 1) := by decide +kernel
theorem dX2_put_1 : decode cX2_put 1 = .ok (.getfield 11, 3) := by decide +kernel
theorem dX2_put_4 : decode cX2_put 4 = .ok (.iload_n 1, 1) := by decide +kernel
theorem dX2_put_5 : decode cX2_put 5 = .ok (.aaload, 1) := by decide +kernel
theorem dX2_put_6 : decode cX2_put 6 = .ok (.iload_n 2, 1) := by decide +kernel
theorem dX2_put_7 : decode cX2_put 7 = .ok (.putfield 26, 3) := by decide +kernel
theorem dX2_put_10 : decode cX2_put 10 = .ok (.aload_n 0, 1) := by decide +kernel
theorem dX2_put_11 : decode cX2_put 11 = .ok (.getfield 11, 3) := by decide +kernel
theorem dX2_put_14 : decode cX2_put 14 = .ok (.iload_n 1, 1) := by decide +kernel
theorem dX2_put_15 : decode cX2_put 15 = .ok (.aaload, 1) := by decide +kernel
theorem dX2_put_16 : decode cX2_put 16 = .ok (.iload_n 3, 1) := by decide +kernel
theorem dX2_put_17 : decode cX2_put 17 = .ok (.putfield 29, 3) := by decide +kernel
theorem dX2_put_20 : decode cX2_put 20 = .ok (.aload_n 0, 1) := by decide +kernel
theorem dX2_put_21 : decode cX2_put 21 = .ok (.invokevirtual 36, 3) := by decide +kernel
theorem dX2_put_24 : decode cX2_put 24 = .ok (.return_, 1) := by decide +kernel
theorem dX2_adjust_0 : decode cX2_adjust 0 = .ok (.aload_n 0, 1) := by decide +kernel
theorem dX2_adjust_1 : decode cX2_adjust 1 = .ok (.getfield 11, 3) := by decide +kernel
theorem dX2_adjust_4 : decode cX2_adjust 4 = .ok (.iload_n 1, 1) := by decide +kernel
theorem dX2_adjust_5 : decode cX2_adjust 5 = .ok (.aaload, 1) := by decide +kernel
theorem dX2_adjust_6 : decode cX2_adjust 6 = .ok (.iload_n 2, 1) := by decide +kernel
theorem dX2_adjust_7 : decode cX2_adjust 7 = .ok (.putfield 39, 3) := by decide +kernel
theorem dX2_adjust_10 : decode cX2_adjust 10 = .ok (.aload_n 0, 1) := by decide +kernel
theorem dX2_adjust_11 : decode cX2_adjust 11 = .ok (.getfield 11, 3) := by decide +kernel
theorem dX2_adjust_14 : decode cX2_adjust 14 = .ok (.iload_n 1, 1) := by decide +kernel
theorem dX2_adjust_15 : decode cX2_adjust 15 = .ok (.aaload, 1) := by decide +kernel
theorem dX2_adjust_16 : decode cX2_adjust 16 = .ok (.iload_n 3, 1) := by decide +kernel
theorem dX2_adjust_17 : decode cX2_adjust 17 = .ok (.putfield 42, 3) := by decide +kernel
theorem dX2_adjust_20 : decode cX2_adjust 20 = .ok (.aload_n 0, 1) := by decide +kernel
theorem dX2_adjust_21 : decode cX2_adjust 21 = .ok (.invokevirtual 36, 3) := by decide +kernel
theorem dX2_adjust_24 : decode cX2_adjust 24 = .ok (.return_, 1) := by decide +kernel
theorem dX2_findHearers_0 : decode cX2_findHearers 0 = .ok (.iconst 0, 1) := by decide +kernel
theorem dX2_findHearers_1 : decode cX2_findHearers 1 = .ok (.istore_n 1, 1) := by decide +kernel
theorem dX2_findHearers_2 : decode cX2_findHearers 2 = .ok (.iload_n 1, 1) := by decide +kernel
theorem dX2_findHearers_3 : decode cX2_findHearers 3 = .ok (.aload_n 0, 1) := by decide +kernel
theorem dX2_findHearers_4 : decode cX2_findHearers 4 = .ok (.getfield 21, 3) := by decide +kernel
theorem dX2_findHearers_7 : decode cX2_findHearers 7 = .ok (.if_icmp .ge 73, 3) := by decide +kernel
theorem dX2_findHearers_10 : decode cX2_findHearers 10 = .ok (.iconst 0, 1) := by decide +kernel
theorem dX2_findHearers_11 : decode cX2_findHearers 11 = .ok (.istore_n 2, 1) := by decide +kernel
theorem dX2_findHearers_12 : decode cX2_findHearers 12 = .ok (.iconst 0, 1) := by decide +kernel
theorem dX2_findHearers_13 : decode cX2_findHearers 13 = .ok (.istore_n 3, 1) := by decide +kernel
theorem dX2_findHearers_14 : decode cX2_findHearers 14 = .ok (.iload_n 3, 1) := by decide +kernel
theorem dX2_findHearers_15 : decode cX2_findHearers 15 = .ok (.aload_n 0, 1) := by decide +kernel
theorem dX2_findHearers_16 : decode cX2_findHearers 16 = .ok (.getfield 21, 3) := by decide +kernel
theorem dX2_findHearers_19 : decode cX2_findHearers 19 = .ok (.if_icmp .ge 48, 3) := by decide +kernel
theorem dX2_findHearers_22 : decode cX2_findHearers 22 = .ok (.iload_n 3, 1) := by decide +kernel
theorem dX2_findHearers_23 : decode cX2_findHearers 23 = .ok (.iload_n 1, 1) := by decide +kernel
theorem dX2_findHearers_24 : decode cX2_findHearers 24 = .ok (.if_icmp .eq 37, 3) := by decide +kernel
theorem dX2_findHearers_27 : decode cX2_findHearers 27 = .ok (.aload_n 0, 1) := by decide +kernel
theorem dX2_findHearers_28 : decode cX2_findHearers 28 = .ok (.iload_n 3, 1) := by decide +kernel
theorem dX2_findHearers_29 : decode cX2_findHearers 29 = .ok (.iload_n 1, 1) := by decide +kernel
theorem dX2_findHearers_30 : decode cX2_findHearers 30 = .ok (.invokevirtual 46, 3) := by decide +kernel
theorem dX2_findHearers_33 : decode cX2_findHearers 33 = .ok (.aload_n 0, 1) := by decide +kernel
theorem dX2_findHearers_34 : decode cX2_findHearers 34 = .ok (.getfield 11, 3) := by decide +kernel
theorem dX2_findHearers_37 : decode cX2_findHearers 37 = .ok (.iload_n 1, 1) := by decide +kernel
theorem dX2_findHearers_38 : decode cX2_findHearers 38 = .ok (.aaload, 1) := by decide +kernel
theorem dX2_findHearers_39 : decode cX2_findHearers 39 = .ok (.getfield 39, 3) := by decide +kernel
theorem dX2_findHearers_42 : decode cX2_findHearers 42 = .ok (.aload_n 0, 1) := by decide +kernel
theorem dX2_findHearers_43 : decode cX2_findHearers 43 = .ok (.getfield 11, 3) := by decide +kernel
theorem dX2_findHearers_46 : decode cX2_findHearers 46 = .ok (.iload_n 1, 1) := by decide +kernel
theorem dX2_findHearers_47 : decode cX2_findHearers 47 = .ok (.aaload, 1) := by decide +kernel
theorem dX2_findHearers_48 : decode cX2_findHearers 48 = .ok (.getfield 39, 3) := by decide +kernel
theorem dX2_findHearers_51 : decode cX2_findHearers 51 = .ok (.imul, 1) := by decide +kernel
theorem dX2_findHearers_52 : decode cX2_findHearers 52 = .ok (.if_icmp .gt 9, 3) := by decide +kernel
theorem dX2_findHearers_55 : decode cX2_findHearers 55 = .ok (.iload_n 2, 1) := by decide +kernel
theorem dX2_findHearers_56 : decode cX2_findHearers 56 = .ok (.iconst 1, 1) := by decide +kernel
theorem dX2_findHearers_57 : decode cX2_findHearers 57 = .ok (.iload_n 3, 1) := by decide +kernel
theorem dX2_findHearers_58 : decode cX2_findHearers 58 = .ok (.ishl, 1) := by decide +kernel
theorem dX2_findHearers_59 : decode cX2_findHearers 59 = .ok (.ior, 1) := by decide +kernel
theorem dX2_findHearers_60 : decode cX2_findHearers 60 = .ok (.istore_n 2, 1) := by decide +kernel
theorem dX2_findHearers_61 : decode cX2_findHearers 61 = .ok (.iinc 3 1, 3) := by decide +kernel
theorem dX2_findHearers_64 : decode cX2_findHearers 64 = .ok (.goto (-50), 3) := by decide +kernel
theorem dX2_findHearers_67 : decode cX2_findHearers 67 = .ok (.aload_n 0, 1) := by decide +kernel
theorem dX2_findHearers_68 : decode cX2_findHearers 68 = .ok (.getfield 17, 3) := by decide +kernel
theorem dX2_findHearers_71 : decode cX2_findHearers 71 = .ok (.iload_n 1, 1) := by decide +kernel
theorem dX2_findHearers_72 : decode cX2_findHearers 72 = .ok (.iload_n 2, 1) := by decide +kernel
theorem dX2_findHearers_73 : decode cX2_findHearers 73 = .ok (.iastore, 1) := by decide +kernel
theorem dX2_findHearers_74 : decode cX2_findHearers 74 = .ok (.iinc 1 1, 3) := by decide +kernel
theorem dX2_findHearers_77 : decode cX2_findHearers 77 = .ok (.goto (-75), 3) := by decide +kernel
theorem dX2_findHearers_80 : decode cX2_findHearers 80 = .ok (.return_, 1) := by decide +kernel
theorem dX2_far_0 : decode cX2_far 0 = .ok (.aload_n 0, 1) := by decide +kernel
theorem dX2_far_1 : decode cX2_far 1 = .ok (.getfield 11, 3) := by decide +kernel
theorem dX2_far_4 : decode cX2_far 4 = .ok (.iload_n 1, 1) := by decide +kernel
theorem dX2_far_5 : decode cX2_far 5 = .ok (.aaload, 1) := by decide +kernel
theorem dX2_far_6 : decode cX2_far 6 = .ok (.getfield 26, 3) := by decide +kernel
theorem dX2_far_9 : decode cX2_far 9 = .ok (.aload_n 0, 1) := by decide +kernel
theorem dX2_far_10 : decode cX2_far 10 = .ok (.getfield 11, 3) := by decide +kernel
theorem dX2_far_13 : decode cX2_far 13 = .ok (.iload_n 2, 1) := by decide +kernel
theorem dX2_far_14 : decode cX2_far 14 = .ok (.aaload, 1) := by decide +kernel
theorem dX2_far_15 : decode cX2_far 15 = .ok (.getfield 26, 3) := by decide +kernel
theorem dX2_far_18 : decode cX2_far 18 = .ok (.isub, 1) := by decide +kernel
theorem dX2_far_19 : decode cX2_far 19 = .ok (.istore_n 3, 1) := by decide +kernel
theorem dX2_far_20 : decode cX2_far 20 = .ok (.aload_n 0, 1) := by decide +kernel
theorem dX2_far_21 : decode cX2_far 21 = .ok (.getfield 11, 3) := by decide +kernel
theorem dX2_far_24 : decode cX2_far 24 = .ok (.iload_n 1, 1) := by decide +kernel
theorem dX2_far_25 : decode cX2_far 25 = .ok (.aaload, 1) := by decide +kernel
theorem dX2_far_26 : decode cX2_far 26 = .ok (.getfield 29, 3) := by decide +kernel
theorem dX2_far_29 : decode cX2_far 29 = .ok (.aload_n 0, 1) := by decide +kernel
theorem dX2_far_30 : decode cX2_far 30 = .ok (.getfield 11, 3) := by decide +kernel
theorem dX2_far_33 : decode cX2_far 33 = .ok (.iload_n 2, 1) := by decide +kernel
theorem dX2_far_34 : decode cX2_far 34 = .ok (.aaload, 1) := by decide +kernel
theorem dX2_far_35 : decode cX2_far 35 = .ok (.getfield 29, 3) := by decide +kernel
theorem dX2_far_38 : decode cX2_far 38 = .ok (.isub, 1) := by decide +kernel
theorem dX2_far_39 : decode cX2_far 39 = .ok (.istore 4, 2) := by decide +kernel
theorem dX2_far_41 : decode cX2_far 41 = .ok (.iload_n 3, 1) := by decide +kernel
theorem dX2_far_42 : decode cX2_far 42 = .ok (.iload_n 3, 1) := by decide +kernel
theorem dX2_far_43 : decode cX2_far 43 = .ok (.imul, 1) := by decide +kernel
theorem dX2_far_44 : decode cX2_far 44 = .ok (.iload 4, 2) := by decide +kernel
theorem dX2_far_46 : decode cX2_far 46 = .ok (.iload 4, 2) := by decide +kernel
theorem dX2_far_48 : decode cX2_far 48 = .ok (.imul, 1) := by decide +kernel
theorem dX2_far_49 : decode cX2_far 49 = .ok (.iadd, 1) := by decide +kernel
theorem dX2_far_50 : decode cX2_far 50 = .ok (.ireturn, 1) := by decide +kernel
theorem dX2_canHear_0 : decode cX2_canHear 0 = .ok (.aload_n 0, 1) := by decide +kernel
theorem dX2_canHear_1 : decode cX2_canHear 1 = .ok (.iload_n 1, 1) := by decide +kernel
theorem dX2_canHear_2 : decode cX2_canHear 2 = .ok (.invokevirtual 50, 3) := by decide +kernel
theorem dX2_canHear_5 : decode cX2_canHear 5 = .ok (.ifCond .eq 28, 3) := by decide +kernel
theorem dX2_canHear_8 : decode cX2_canHear 8 = .ok (.aload_n 0, 1) := by decide +kernel
theorem dX2_canHear_9 : decode cX2_canHear 9 = .ok (.iload_n 2, 1) := by decide +kernel
theorem dX2_canHear_10 : decode cX2_canHear 10 = .ok (.invokevirtual 50, 3) := by decide +kernel
theorem dX2_canHear_13 : decode cX2_canHear 13 = .ok (.ifCond .eq 20, 3) := by decide +kernel
theorem dX2_canHear_16 : decode cX2_canHear 16 = .ok (.aload_n 0, 1) := by decide +kernel
theorem dX2_canHear_17 : decode cX2_canHear 17 = .ok (.getfield 17, 3) := by decide +kernel
theorem dX2_canHear_20 : decode cX2_canHear 20 = .ok (.iload_n 2, 1) := by decide +kernel
theorem dX2_canHear_21 : decode cX2_canHear 21 = .ok (.iaload, 1) := by decide +kernel
theorem dX2_canHear_22 : decode cX2_canHear 22 = .ok (.iload_n 1, 1) := by decide +kernel
theorem dX2_canHear_23 : decode cX2_canHear 23 = .ok (.invokestatic 54, 3) := by decide +kernel
theorem dX2_canHear_26 : decode cX2_canHear 26 = .ok (.ifCond .eq 7, 3) := by decide +kernel
theorem dX2_canHear_29 : decode cX2_canHear 29 = .ok (.iconst 1, 1) := by decide +kernel
theorem dX2_canHear_30 : decode cX2_canHear 30 = .ok (.goto 4, 3) := by decide +kernel
theorem dX2_canHear_33 : decode cX2_canHear 33 = .ok (.iconst 0, 1) := by decide +kernel
theorem dX2_canHear_34 : decode cX2_canHear 34 = .ok (.ireturn, 1) := by decide +kernel
theorem dX2_areLinked_0 : decode cX2_areLinked 0 = .ok (.aload_n 0, 1) := by decide +kernel
theorem dX2_areLinked_1 : decode cX2_areLinked 1 = .ok (.iload_n 1, 1) := by decide +kernel
theorem dX2_areLinked_2 : decode cX2_areLinked 2 = .ok (.iload_n 2, 1) := by decide +kernel
theorem dX2_areLinked_3 : decode cX2_areLinked 3 = .ok (.invokevirtual 58, 3) := by decide +kernel
theorem dX2_areLinked_6 : decode cX2_areLinked 6 = .ok (.ifCond .eq 16, 3) := by decide +kernel
theorem dX2_areLinked_9 : decode cX2_areLinked 9 = .ok (.aload_n 0, 1) := by decide +kernel
theorem dX2_areLinked_10 : decode cX2_areLinked 10 = .ok (.iload_n 2, 1) := by decide +kernel
theorem dX2_areLinked_11 : decode cX2_areLinked 11 = .ok (.iload_n 1, 1) := by decide +kernel
theorem dX2_areLinked_12 : decode cX2_areLinked 12 = .ok (.invokevirtual 58, 3) := by decide +kernel
theorem dX2_areLinked_15 : decode cX2_areLinked 15 = .ok (.ifCond .eq 7, 3) := by decide +kernel
theorem dX2_areLinked_18 : decode cX2_areLinked 18 = .ok (.iconst 1, 1) := by decide +kernel
theorem dX2_areLinked_19 : decode cX2_areLinked 19 = .ok (.goto 4, 3) := by decide +kernel
theorem dX2_areLinked_22 : decode cX2_areLinked 22 = .ok (.iconst 0, 1) := by decide +kernel
theorem dX2_areLinked_23 : decode cX2_areLinked 23 = .ok (.ireturn, 1) := by decide +kernel
theorem dX2_linkedWith_0 : decode cX2_linkedWith 0 = .ok (.iconst 0, 1) := by decide +kernel
theorem dX2_linkedWith_1 : decode cX2_linkedWith 1 = .ok (.istore_n 2, 1) := by decide +kernel
theorem dX2_linkedWith_2 : decode cX2_linkedWith 2 = .ok (.iconst 0, 1) := by decide +kernel
theorem dX2_linkedWith_3 : decode cX2_linkedWith 3 = .ok (.istore_n 3, 1) := by decide +kernel
theorem dX2_linkedWith_4 : decode cX2_linkedWith 4 = .ok (.iload_n 3, 1) := by decide +kernel
theorem dX2_linkedWith_5 : decode cX2_linkedWith 5 = .ok (.aload_n 0, 1) := by decide +kernel
theorem dX2_linkedWith_6 : decode cX2_linkedWith 6 = .ok (.getfield 21, 3) := by decide +kernel
theorem dX2_linkedWith_9 : decode cX2_linkedWith 9 = .ok (.if_icmp .ge 24, 3) := by decide +kernel
theorem dX2_linkedWith_12 : decode cX2_linkedWith 12 = .ok (.aload_n 0, 1) := by decide +kernel
theorem dX2_linkedWith_13 : decode cX2_linkedWith 13 = .ok (.iload_n 1, 1) := by decide +kernel
theorem dX2_linkedWith_14 : decode cX2_linkedWith 14 = .ok (.iload_n 3, 1) := by decide +kernel
theorem dX2_linkedWith_15 : decode cX2_linkedWith 15 = .ok (.invokevirtual 61, 3) := by decide +kernel
theorem dX2_linkedWith_18 : decode cX2_linkedWith 18 = .ok (.ifCond .eq 9, 3) := by decide +kernel
theorem dX2_linkedWith_21 : decode cX2_linkedWith 21 = .ok (.iload_n 2, 1) := by decide +kernel
theorem dX2_linkedWith_22 : decode cX2_linkedWith 22 = .ok (.iconst 1, 1) := by decide +kernel
theorem dX2_linkedWith_23 : decode cX2_linkedWith 23 = .ok (.iload_n 3, 1) := by decide +kernel
theorem dX2_linkedWith_24 : decode cX2_linkedWith 24 = .ok (.ishl, 1) := by decide +kernel
theorem dX2_linkedWith_25 : decode cX2_linkedWith 25 = .ok (.ior, 1) := by decide +kernel
theorem dX2_linkedWith_26 : decode cX2_linkedWith 26 = .ok (.istore_n 2, 1) := by decide +kernel
theorem dX2_linkedWith_27 : decode cX2_linkedWith 27 = .ok (.iinc 3 1, 3) := by decide +kernel
theorem dX2_linkedWith_30 : decode cX2_linkedWith 30 = .ok (.goto (-26), 3) := by decide +kernel
theorem dX2_linkedWith_33 : decode cX2_linkedWith 33 = .ok (.iload_n 2, 1) := by decide +kernel
theorem dX2_linkedWith_34 : decode cX2_linkedWith 34 = .ok (.ireturn, 1) := by decide +kernel
theorem dX2_hearsOneOf_0 : decode cX2_hearsOneOf 0 = .ok (.iconst 0, 1) := by decide +kernel
theorem dX2_hearsOneOf_1 : decode cX2_hearsOneOf 1 = .ok (.istore_n 3, 1) := by decide +kernel
theorem dX2_hearsOneOf_2 : decode cX2_hearsOneOf 2 = .ok (.iload_n 3, 1) := by decide +kernel
theorem dX2_hearsOneOf_3 : decode cX2_hearsOneOf 3 = .ok (.aload_n 0, 1) := by decide +kernel
theorem dX2_hearsOneOf_4 : decode cX2_hearsOneOf 4 = .ok (.getfield 21, 3) := by decide +kernel
theorem dX2_hearsOneOf_7 : decode cX2_hearsOneOf 7 = .ok (.if_icmp .ge 28, 3) := by decide +kernel
theorem dX2_hearsOneOf_10 : decode cX2_hearsOneOf 10 = .ok (.iload_n 2, 1) := by decide +kernel
theorem dX2_hearsOneOf_11 : decode cX2_hearsOneOf 11 = .ok (.iload_n 3, 1) := by decide +kernel
theorem dX2_hearsOneOf_12 : decode cX2_hearsOneOf 12 = .ok (.invokestatic 54, 3) := by decide +kernel
theorem dX2_hearsOneOf_15 : decode cX2_hearsOneOf 15 = .ok (.ifCond .eq 14, 3) := by decide +kernel
theorem dX2_hearsOneOf_18 : decode cX2_hearsOneOf 18 = .ok (.aload_n 0, 1) := by decide +kernel
theorem dX2_hearsOneOf_19 : decode cX2_hearsOneOf 19 = .ok (.iload_n 1, 1) := by decide +kernel
theorem dX2_hearsOneOf_20 : decode cX2_hearsOneOf 20 = .ok (.iload_n 3, 1) := by decide +kernel
theorem dX2_hearsOneOf_21 : decode cX2_hearsOneOf 21 = .ok (.invokevirtual 58, 3) := by decide +kernel
theorem dX2_hearsOneOf_24 : decode cX2_hearsOneOf 24 = .ok (.ifCond .eq 5, 3) := by decide +kernel
theorem dX2_hearsOneOf_27 : decode cX2_hearsOneOf 27 = .ok (.iconst 1, 1) := by decide +kernel
theorem dX2_hearsOneOf_28 : decode cX2_hearsOneOf 28 = .ok (.ireturn, 1) := by decide +kernel
theorem dX2_hearsOneOf_29 : decode cX2_hearsOneOf 29 = .ok (.iinc 3 1, 3) := by decide +kernel
theorem dX2_hearsOneOf_32 : decode cX2_hearsOneOf 32 = .ok (.goto (-30), 3) := by decide +kernel
theorem dX2_hearsOneOf_35 : decode cX2_hearsOneOf 35 = .ok (.iconst 0, 1) := by decide +kernel
theorem dX2_hearsOneOf_36 : decode cX2_hearsOneOf 36 = .ok (.ireturn, 1) := by decide +kernel
theorem dX2_gets_0 : decode cX2_gets 0 = .ok (.iload_n 3, 1) := by decide +kernel
theorem dX2_gets_1 : decode cX2_gets 1 = .ok (.iload_n 1, 1) := by decide +kernel
theorem dX2_gets_2 : decode cX2_gets 2 = .ok (.invokestatic 54, 3) := by decide +kernel
theorem dX2_gets_5 : decode cX2_gets 5 = .ok (.ifCond .ne 12, 3) := by decide +kernel
theorem dX2_gets_8 : decode cX2_gets 8 = .ok (.aload_n 0, 1) := by decide +kernel
theorem dX2_gets_9 : decode cX2_gets 9 = .ok (.iload_n 1, 1) := by decide +kernel
theorem dX2_gets_10 : decode cX2_gets 10 = .ok (.iload_n 2, 1) := by decide +kernel
theorem dX2_gets_11 : decode cX2_gets 11 = .ok (.invokevirtual 58, 3) := by decide +kernel
theorem dX2_gets_14 : decode cX2_gets 14 = .ok (.ifCond .ne 5, 3) := by decide +kernel
theorem dX2_gets_17 : decode cX2_gets 17 = .ok (.iconst 0, 1) := by decide +kernel
theorem dX2_gets_18 : decode cX2_gets 18 = .ok (.ireturn, 1) := by decide +kernel
theorem dX2_gets_19 : decode cX2_gets 19 = .ok (.iconst 4, 1) := by decide +kernel
theorem dX2_gets_20 : decode cX2_gets 20 = .ok (.aload_n 0, 1) := by decide +kernel
theorem dX2_gets_21 : decode cX2_gets 21 = .ok (.iload_n 2, 1) := by decide +kernel
theorem dX2_gets_22 : decode cX2_gets 22 = .ok (.iload_n 1, 1) := by decide +kernel
theorem dX2_gets_23 : decode cX2_gets 23 = .ok (.invokevirtual 46, 3) := by decide +kernel
theorem dX2_gets_26 : decode cX2_gets 26 = .ok (.imul, 1) := by decide +kernel
theorem dX2_gets_27 : decode cX2_gets 27 = .ok (.istore 4, 2) := by decide +kernel
theorem dX2_gets_29 : decode cX2_gets 29 = .ok (.iconst 0, 1) := by decide +kernel
theorem dX2_gets_30 : decode cX2_gets 30 = .ok (.istore 5, 2) := by decide +kernel
theorem dX2_gets_32 : decode cX2_gets 32 = .ok (.iload 5, 2) := by decide +kernel
theorem dX2_gets_34 : decode cX2_gets 34 = .ok (.aload_n 0, 1) := by decide +kernel
theorem dX2_gets_35 : decode cX2_gets 35 = .ok (.getfield 21, 3) := by decide +kernel
theorem dX2_gets_38 : decode cX2_gets 38 = .ok (.if_icmp .ge 60, 3) := by decide +kernel
theorem dX2_gets_41 : decode cX2_gets 41 = .ok (.iload 5, 2) := by decide +kernel
theorem dX2_gets_43 : decode cX2_gets 43 = .ok (.iload_n 2, 1) := by decide +kernel
theorem dX2_gets_44 : decode cX2_gets 44 = .ok (.if_icmp .eq 26, 3) := by decide +kernel
theorem dX2_gets_47 : decode cX2_gets 47 = .ok (.iload_n 3, 1) := by decide +kernel
theorem dX2_gets_48 : decode cX2_gets 48 = .ok (.iload 5, 2) := by decide +kernel
theorem dX2_gets_50 : decode cX2_gets 50 = .ok (.invokestatic 54, 3) := by decide +kernel
theorem dX2_gets_53 : decode cX2_gets 53 = .ok (.ifCond .eq 17, 3) := by decide +kernel
theorem dX2_gets_56 : decode cX2_gets 56 = .ok (.aload_n 0, 1) := by decide +kernel
theorem dX2_gets_57 : decode cX2_gets 57 = .ok (.iload_n 1, 1) := by decide +kernel
theorem dX2_gets_58 : decode cX2_gets 58 = .ok (.iload 5, 2) := by decide +kernel
theorem dX2_gets_60 : decode cX2_gets 60 = .ok (.invokevirtual 58, 3) := by decide +kernel
theorem dX2_gets_63 : decode cX2_gets 63 = .ok (.ifCond .eq 7, 3) := by decide +kernel
theorem dX2_gets_66 : decode cX2_gets 66 = .ok (.iconst 1, 1) := by decide +kernel
theorem dX2_gets_67 : decode cX2_gets 67 = .ok (.goto 4, 3) := by decide +kernel
theorem dX2_gets_70 : decode cX2_gets 70 = .ok (.iconst 0, 1) := by decide +kernel
theorem dX2_gets_71 : decode cX2_gets 71 = .ok (.istore 6, 2) := by decide +kernel
theorem dX2_gets_73 : decode cX2_gets 73 = .ok (.iload 6, 2) := by decide +kernel
theorem dX2_gets_75 : decode cX2_gets 75 = .ok (.ifCond .eq 17, 3) := by decide +kernel
theorem dX2_gets_78 : decode cX2_gets 78 = .ok (.iload 4, 2) := by decide +kernel
theorem dX2_gets_80 : decode cX2_gets 80 = .ok (.aload_n 0, 1) := by decide +kernel
theorem dX2_gets_81 : decode cX2_gets 81 = .ok (.iload 5, 2) := by decide +kernel
theorem dX2_gets_83 : decode cX2_gets 83 = .ok (.iload_n 1, 1) := by decide +kernel
theorem dX2_gets_84 : decode cX2_gets 84 = .ok (.invokevirtual 46, 3) := by decide +kernel
theorem dX2_gets_87 : decode cX2_gets 87 = .ok (.if_icmp .le 5, 3) := by decide +kernel
theorem dX2_gets_90 : decode cX2_gets 90 = .ok (.iconst 0, 1) := by decide +kernel
theorem dX2_gets_91 : decode cX2_gets 91 = .ok (.ireturn, 1) := by decide +kernel
theorem dX2_gets_92 : decode cX2_gets 92 = .ok (.iinc 5 1, 3) := by decide +kernel
theorem dX2_gets_95 : decode cX2_gets 95 = .ok (.goto (-63), 3) := by decide +kernel
theorem dX2_gets_98 : decode cX2_gets 98 = .ok (.iconst 1, 1) := by decide +kernel
theorem dX2_gets_99 : decode cX2_gets 99 = .ok (.ireturn, 1) := by decide +kernel
theorem dX2_framesInQueues_0 : decode cX2_framesInQueues 0 = .ok (.iconst 0, 1) := by decide +kernel
theorem dX2_framesInQueues_1 : decode cX2_framesInQueues 1 = .ok (.istore_n 1, 1) := by decide +kernel
theorem dX2_framesInQueues_2 : decode cX2_framesInQueues 2 = .ok (.iconst 0, 1) := by decide +kernel
theorem dX2_framesInQueues_3 : decode cX2_framesInQueues 3 = .ok (.istore_n 2, 1) := by decide +kernel
theorem dX2_framesInQueues_4 : decode cX2_framesInQueues 4 = .ok (.iload_n 2, 1) := by decide +kernel
theorem dX2_framesInQueues_5 : decode cX2_framesInQueues 5 = .ok (.aload_n 0, 1) := by decide +kernel
theorem dX2_framesInQueues_6 : decode cX2_framesInQueues 6 = .ok (.getfield 21, 3) := by decide +kernel
theorem dX2_framesInQueues_9 : decode cX2_framesInQueues 9 = .ok (.if_icmp .ge 24, 3) := by decide +kernel
theorem dX2_framesInQueues_12 : decode cX2_framesInQueues 12 = .ok (.iload_n 1, 1) := by decide +kernel
theorem dX2_framesInQueues_13 : decode cX2_framesInQueues 13 = .ok (.aload_n 0, 1) := by decide +kernel
theorem dX2_framesInQueues_14 : decode cX2_framesInQueues 14 = .ok (.getfield 11, 3) := by decide +kernel
theorem dX2_framesInQueues_17 : decode cX2_framesInQueues 17 = .ok (.iload_n 2, 1) := by decide +kernel
theorem dX2_framesInQueues_18 : decode cX2_framesInQueues 18 = .ok (.aaload, 1) := by decide +kernel
theorem dX2_framesInQueues_19 : decode cX2_framesInQueues 19 = .ok (.getfield 64, 3) := by decide +kernel
theorem dX2_framesInQueues_22 : decode cX2_framesInQueues 22 = .ok (.getfield 68, 3) := by decide +kernel
theorem dX2_framesInQueues_25 : decode cX2_framesInQueues 25 = .ok (.iadd, 1) := by decide +kernel
theorem dX2_framesInQueues_26 : decode cX2_framesInQueues 26 = .ok (.istore_n 1, 1) := by decide +kernel
theorem dX2_framesInQueues_27 : decode cX2_framesInQueues 27 = .ok (.iinc 2 1, 3) := by decide +kernel
theorem dX2_framesInQueues_30 : decode cX2_framesInQueues 30 = .ok (.goto (-26), 3) := by decide +kernel
theorem dX2_framesInQueues_33 : decode cX2_framesInQueues 33 = .ok (.iload_n 1, 1) := by decide +kernel
theorem dX2_framesInQueues_34 : decode cX2_framesInQueues 34 = .ok (.ireturn, 1) := by decide +kernel
theorem dX2_isSuspect_0 : decode cX2_isSuspect 0 = .ok (.aload_n 0, 1) := by decide +kernel
theorem dX2_isSuspect_1 : decode cX2_isSuspect 1 = .ok (.getfield 11, 3) := by decide +kernel
theorem dX2_isSuspect_4 : decode cX2_isSuspect 4 = .ok (.iload_n 1, 1) := by decide +kernel
theorem dX2_isSuspect_5 : decode cX2_isSuspect 5 = .ok (.aaload, 1) := by decide +kernel
theorem dX2_isSuspect_6 : decode cX2_isSuspect 6 = .ok (.getfield 73, 3) := by decide +kernel
theorem dX2_isSuspect_9 : decode cX2_isSuspect 9 = .ok (.i2l, 1) := by decide +kernel
theorem dX2_isSuspect_10 : decode cX2_isSuspect 10 = .ok (.lstore_n 2, 1) := by decide +kernel
theorem dX2_isSuspect_11 : decode cX2_isSuspect 11 = .ok (.aload_n 0, 1) := by decide +kernel
theorem dX2_isSuspect_12 : decode cX2_isSuspect 12 = .ok (.getfield 11, 3) := by decide +kernel
theorem dX2_isSuspect_15 : decode cX2_isSuspect 15 = .ok (.iload_n 1, 1) := by decide +kernel
theorem dX2_isSuspect_16 : decode cX2_isSuspect 16 = .ok (.aaload, 1) := by decide +kernel
theorem dX2_isSuspect_17 : decode cX2_isSuspect 17 = .ok (.getfield 76, 3) := by decide +kernel
theorem dX2_isSuspect_20 : decode cX2_isSuspect 20 = .ok (.i2l, 1) := by decide +kernel
theorem dX2_isSuspect_21 : decode cX2_isSuspect 21 = .ok (.lstore 4, 2) := by decide +kernel
theorem dX2_isSuspect_23 : decode cX2_isSuspect 23 = .ok (.lconst 0, 1) := by decide +kernel
theorem dX2_isSuspect_24 : decode cX2_isSuspect 24 = .ok (.lstore 6, 2) := by decide +kernel
theorem dX2_isSuspect_26 : decode cX2_isSuspect 26 = .ok (.lconst 0, 1) := by decide +kernel
theorem dX2_isSuspect_27 : decode cX2_isSuspect 27 = .ok (.lstore 8, 2) := by decide +kernel
theorem dX2_isSuspect_29 : decode cX2_isSuspect 29 = .ok (.iconst 0, 1) := by decide +kernel
theorem dX2_isSuspect_30 : decode cX2_isSuspect 30 = .ok (.istore 10, 2) := by decide +kernel
theorem dX2_isSuspect_32 : decode cX2_isSuspect 32 = .ok (.iload 10, 2) := by decide +kernel
theorem dX2_isSuspect_34 : decode cX2_isSuspect 34 = .ok (.aload_n 0, 1) := by decide +kernel
theorem dX2_isSuspect_35 : decode cX2_isSuspect 35 = .ok (.getfield 21, 3) := by decide +kernel
theorem dX2_isSuspect_38 : decode cX2_isSuspect 38 = .ok (.if_icmp .ge 47, 3) := by decide +kernel
theorem dX2_isSuspect_41 : decode cX2_isSuspect 41 = .ok (.iload 10, 2) := by decide +kernel
theorem dX2_isSuspect_43 : decode cX2_isSuspect 43 = .ok (.iload_n 1, 1) := by decide +kernel
theorem dX2_isSuspect_44 : decode cX2_isSuspect 44 = .ok (.if_icmp .eq 35, 3) := by decide +kernel
theorem dX2_isSuspect_47 : decode cX2_isSuspect 47 = .ok (.lload 6, 2) := by decide +kernel
theorem dX2_isSuspect_49 : decode cX2_isSuspect 49 = .ok (.aload_n 0, 1) := by decide +kernel
theorem dX2_isSuspect_50 : decode cX2_isSuspect 50 = .ok (.getfield 11, 3) := by decide +kernel
theorem dX2_isSuspect_53 : decode cX2_isSuspect 53 = .ok (.iload 10, 2) := by decide +kernel
theorem dX2_isSuspect_55 : decode cX2_isSuspect 55 = .ok (.aaload, 1) := by decide +kernel
theorem dX2_isSuspect_56 : decode cX2_isSuspect 56 = .ok (.getfield 73, 3) := by decide +kernel
theorem dX2_isSuspect_59 : decode cX2_isSuspect 59 = .ok (.i2l, 1) := by decide +kernel
theorem dX2_isSuspect_60 : decode cX2_isSuspect 60 = .ok (.ladd, 1) := by decide +kernel
theorem dX2_isSuspect_61 : decode cX2_isSuspect 61 = .ok (.lstore 6, 2) := by decide +kernel
theorem dX2_isSuspect_63 : decode cX2_isSuspect 63 = .ok (.lload 8, 2) := by decide +kernel
theorem dX2_isSuspect_65 : decode cX2_isSuspect 65 = .ok (.aload_n 0, 1) := by decide +kernel
theorem dX2_isSuspect_66 : decode cX2_isSuspect 66 = .ok (.getfield 11, 3) := by decide +kernel
theorem dX2_isSuspect_69 : decode cX2_isSuspect 69 = .ok (.iload 10, 2) := by decide +kernel
theorem dX2_isSuspect_71 : decode cX2_isSuspect 71 = .ok (.aaload, 1) := by decide +kernel
theorem dX2_isSuspect_72 : decode cX2_isSuspect 72 = .ok (.getfield 76, 3) := by decide +kernel
theorem dX2_isSuspect_75 : decode cX2_isSuspect 75 = .ok (.i2l, 1) := by decide +kernel
theorem dX2_isSuspect_76 : decode cX2_isSuspect 76 = .ok (.ladd, 1) := by decide +kernel
theorem dX2_isSuspect_77 : decode cX2_isSuspect 77 = .ok (.lstore 8, 2) := by decide +kernel
theorem dX2_isSuspect_79 : decode cX2_isSuspect 79 = .ok (.iinc 10 1, 3) := by decide +kernel
theorem dX2_isSuspect_82 : decode cX2_isSuspect 82 = .ok (.goto (-50), 3) := by decide +kernel
theorem dX2_isSuspect_85 : decode cX2_isSuspect 85 = .ok (.lload 4, 2) := by decide +kernel
theorem dX2_isSuspect_87 : decode cX2_isSuspect 87 = .ok (.ldc2_w 79, 3) := by decide +kernel
theorem dX2_isSuspect_90 : decode cX2_isSuspect 90 = .ok (.lcmp, 1) := by decide +kernel
theorem dX2_isSuspect_91 : decode cX2_isSuspect 91 = .ok (.ifCond .lt 24, 3) := by decide +kernel
theorem dX2_isSuspect_94 : decode cX2_isSuspect 94 = .ok (.ldc2_w 81, 3) := by decide +kernel
theorem dX2_isSuspect_97 : decode cX2_isSuspect 97 = .ok (.lload_n 2, 1) := by decide +kernel
theorem dX2_isSuspect_98 : decode cX2_isSuspect 98 = .ok (.lmul, 1) := by decide +kernel
theorem dX2_isSuspect_99 : decode cX2_isSuspect 99 = .ok (.lload 8, 2) := by decide +kernel
theorem dX2_isSuspect_101 : decode cX2_isSuspect 101 = .ok (.lmul, 1) := by decide +kernel
theorem dX2_isSuspect_102 : decode cX2_isSuspect 102 = .ok (.lload 6, 2) := by decide +kernel
theorem dX2_isSuspect_104 : decode cX2_isSuspect 104 = .ok (.lload 4, 2) := by decide +kernel
theorem dX2_isSuspect_106 : decode cX2_isSuspect 106 = .ok (.lmul, 1) := by decide +kernel
theorem dX2_isSuspect_107 : decode cX2_isSuspect 107 = .ok (.lcmp, 1) := by decide +kernel
theorem dX2_isSuspect_108 : decode cX2_isSuspect 108 = .ok (.ifCond .ge 7, 3) := by decide +kernel
theorem dX2_isSuspect_111 : decode cX2_isSuspect 111 = .ok (.iconst 1, 1) := by decide +kernel
theorem dX2_isSuspect_112 : decode cX2_isSuspect 112 = .ok (.goto 4, 3) := by decide +kernel
theorem dX2_isSuspect_115 : decode cX2_isSuspect 115 = .ok (.iconst 0, 1) := by decide +kernel
theorem dX2_isSuspect_116 : decode cX2_isSuspect 116 = .ok (.ireturn, 1) := by decide +kernel
theorem dX2_fewestCovering_0 : decode cX2_fewestCovering 0 = .ok (.aload_n 0, 1) := by decide +kernel
theorem dX2_fewestCovering_1 : decode cX2_fewestCovering 1 = .ok (.invokevirtual 83, 3) := by decide +kernel
theorem dX2_fewestCovering_4 : decode cX2_fewestCovering 4 = .ok (.istore_n 1, 1) := by decide +kernel
theorem dX2_fewestCovering_5 : decode cX2_fewestCovering 5 = .ok (.iconst 0, 1) := by decide +kernel
theorem dX2_fewestCovering_6 : decode cX2_fewestCovering 6 = .ok (.istore_n 2, 1) := by decide +kernel
theorem dX2_fewestCovering_7 : decode cX2_fewestCovering 7 = .ok (.iload_n 2, 1) := by decide +kernel
theorem dX2_fewestCovering_8 : decode cX2_fewestCovering 8 = .ok (.aload_n 0, 1) := by decide +kernel
theorem dX2_fewestCovering_9 : decode cX2_fewestCovering 9 = .ok (.invokevirtual 83, 3) := by decide +kernel
theorem dX2_fewestCovering_12 : decode cX2_fewestCovering 12 = .ok (.if_icmp .ge 30, 3) := by decide +kernel
theorem dX2_fewestCovering_15 : decode cX2_fewestCovering 15 = .ok (.iload_n 2, 1) := by decide +kernel
theorem dX2_fewestCovering_16 : decode cX2_fewestCovering 16 = .ok (.invokestatic 87, 3) := by decide +kernel
theorem dX2_fewestCovering_19 : decode cX2_fewestCovering 19 = .ok (.iload_n 1, 1) := by decide +kernel
theorem dX2_fewestCovering_20 : decode cX2_fewestCovering 20 = .ok (.invokestatic 87, 3) := by decide +kernel
theorem dX2_fewestCovering_23 : decode cX2_fewestCovering 23 = .ok (.if_icmp .ge 13, 3) := by decide +kernel
theorem dX2_fewestCovering_26 : decode cX2_fewestCovering 26 = .ok (.aload_n 0, 1) := by decide +kernel
theorem dX2_fewestCovering_27 : decode cX2_fewestCovering 27 = .ok (.iload_n 2, 1) := by decide +kernel
theorem dX2_fewestCovering_28 : decode cX2_fewestCovering 28 = .ok (.invokevirtual 93, 3) := by decide +kernel
theorem dX2_fewestCovering_31 : decode cX2_fewestCovering 31 = .ok (.ifCond .eq 5, 3) := by decide +kernel
theorem dX2_fewestCovering_34 : decode cX2_fewestCovering 34 = .ok (.iload_n 2, 1) := by decide +kernel
theorem dX2_fewestCovering_35 : decode cX2_fewestCovering 35 = .ok (.istore_n 1, 1) := by decide +kernel
theorem dX2_fewestCovering_36 : decode cX2_fewestCovering 36 = .ok (.iinc 2 1, 3) := by decide +kernel
theorem dX2_fewestCovering_39 : decode cX2_fewestCovering 39 = .ok (.goto (-32), 3) := by decide +kernel
theorem dX2_fewestCovering_42 : decode cX2_fewestCovering 42 = .ok (.iload_n 1, 1) := by decide +kernel
theorem dX2_fewestCovering_43 : decode cX2_fewestCovering 43 = .ok (.ireturn, 1) := by decide +kernel
theorem dX2_isCovering_0 : decode cX2_isCovering 0 = .ok (.iload_n 1, 1) := by decide +kernel
theorem dX2_isCovering_1 : decode cX2_isCovering 1 = .ok (.istore_n 2, 1) := by decide +kernel
theorem dX2_isCovering_2 : decode cX2_isCovering 2 = .ok (.iconst 0, 1) := by decide +kernel
theorem dX2_isCovering_3 : decode cX2_isCovering 3 = .ok (.istore_n 3, 1) := by decide +kernel
theorem dX2_isCovering_4 : decode cX2_isCovering 4 = .ok (.iload_n 3, 1) := by decide +kernel
theorem dX2_isCovering_5 : decode cX2_isCovering 5 = .ok (.aload_n 0, 1) := by decide +kernel
theorem dX2_isCovering_6 : decode cX2_isCovering 6 = .ok (.getfield 21, 3) := by decide +kernel
theorem dX2_isCovering_9 : decode cX2_isCovering 9 = .ok (.if_icmp .ge 26, 3) := by decide +kernel
theorem dX2_isCovering_12 : decode cX2_isCovering 12 = .ok (.iload_n 1, 1) := by decide +kernel
theorem dX2_isCovering_13 : decode cX2_isCovering 13 = .ok (.iload_n 3, 1) := by decide +kernel
theorem dX2_isCovering_14 : decode cX2_isCovering 14 = .ok (.invokestatic 54, 3) := by decide +kernel
theorem dX2_isCovering_17 : decode cX2_isCovering 17 = .ok (.ifCond .eq 12, 3) := by decide +kernel
theorem dX2_isCovering_20 : decode cX2_isCovering 20 = .ok (.iload_n 2, 1) := by decide +kernel
theorem dX2_isCovering_21 : decode cX2_isCovering 21 = .ok (.aload_n 0, 1) := by decide +kernel
theorem dX2_isCovering_22 : decode cX2_isCovering 22 = .ok (.getfield 17, 3) := by decide +kernel
theorem dX2_isCovering_25 : decode cX2_isCovering 25 = .ok (.iload_n 3, 1) := by decide +kernel
theorem dX2_isCovering_26 : decode cX2_isCovering 26 = .ok (.iaload, 1) := by decide +kernel
theorem dX2_isCovering_27 : decode cX2_isCovering 27 = .ok (.ior, 1) := by decide +kernel
theorem dX2_isCovering_28 : decode cX2_isCovering 28 = .ok (.istore_n 2, 1) := by decide +kernel
theorem dX2_isCovering_29 : decode cX2_isCovering 29 = .ok (.iinc 3 1, 3) := by decide +kernel
theorem dX2_isCovering_32 : decode cX2_isCovering 32 = .ok (.goto (-28), 3) := by decide +kernel
theorem dX2_isCovering_35 : decode cX2_isCovering 35 = .ok (.iload_n 2, 1) := by decide +kernel
theorem dX2_isCovering_36 : decode cX2_isCovering 36 = .ok (.aload_n 0, 1) := by decide +kernel
theorem dX2_isCovering_37 : decode cX2_isCovering 37 = .ok (.invokevirtual 83, 3) := by decide +kernel
theorem dX2_isCovering_40 : decode cX2_isCovering 40 = .ok (.if_icmp .ne 7, 3) := by decide +kernel
theorem dX2_isCovering_43 : decode cX2_isCovering 43 = .ok (.iconst 1, 1) := by decide +kernel
theorem dX2_isCovering_44 : decode cX2_isCovering 44 = .ok (.goto 4, 3) := by decide +kernel
theorem dX2_isCovering_47 : decode cX2_isCovering 47 = .ok (.iconst 0, 1) := by decide +kernel
theorem dX2_isCovering_48 : decode cX2_isCovering 48 = .ok (.ireturn, 1) := by decide +kernel
theorem dX3_init_0 : decode cX3_init 0 = .ok (.aload_n 0, 1) := by decide +kernel
theorem dX3_init_1 : decode cX3_init 1 = .ok (.invokespecial 3, 3) := by decide +kernel
theorem dX3_init_4 : decode cX3_init 4 = .ok (.aload_n 0, 1) := by decide +kernel
theorem dX3_init_5 : decode cX3_init 5 = .ok (.bipush 10, 2) := by decide +kernel
theorem dX3_init_7 : decode cX3_init 7 = .ok (.newarray .int, 2) := by decide +kernel
theorem dX3_init_9 : decode cX3_init 9 = .ok (.putfield 9, 3) := by decide +kernel
theorem dX3_init_12 : decode cX3_init 12 = .ok (.aload_n 0, 1) := by decide +kernel
theorem dX3_init_13 : decode cX3_init 13 = .ok (.bipush 10, 2) := by decide +kernel
theorem dX3_init_15 : decode cX3_init 15 = .ok (.newarray .int, 2) := by decide +kernel
theorem dX3_init_17 : decode cX3_init 17 = .ok (.putfield 15, 3) := by decide +kernel
theorem dX3_init_20 : decode cX3_init 20 = .ok (.aload_n 0, 1) := by decide +kernel
theorem dX3_init_21 : decode cX3_init 21 = .ok (.sipush 1024, 3) := by decide +kernel
theorem dX3_init_24 : decode cX3_init 24 = .ok (.newarray .int, 2) := by decide +kernel
theorem dX3_init_26 : decode cX3_init 26 = .ok (.putfield 18, 3) := by decide +kernel
theorem dX3_init_29 : decode cX3_init 29 = .ok (.aload_n 0, 1) := by decide +kernel
theorem dX3_init_30 : decode cX3_init 30 = .ok (.sipush 1024, 3) := by decide +kernel
theorem dX3_init_33 : decode cX3_init 33 = .ok (.newarray .int, 2) := by decide +kernel
theorem dX3_init_35 : decode cX3_init 35 = .ok (.putfield 21, 3) := by decide +kernel
theorem dX3_init_38 : decode cX3_init 38 = .ok (.aload_n 0, 1) := by decide +kernel
theorem dX3_init_39 : decode cX3_init 39 = .ok (.iconst 5, 1) := by decide +kernel
theorem dX3_init_40 : decode cX3_init 40 = .ok (.newarray .int, 2) := by decide +kernel
theorem dX3_init_42 : decode cX3_init 42 = .ok (.putfield 24, 3) := by decide +kernel
theorem dX3_init_45 : decode cX3_init 45 = .ok (.aload_n 0, 1) := by decide +kernel
theorem dX3_init_46 : decode cX3_init 46 = .ok (.iconst 0, 1) := by decide +kernel
theorem dX3_init_47 : decode cX3_init 47 = .ok (.putfield 27, 3) := by decide +kernel
theorem dX3_init_50 : decode cX3_init 50 = .ok (.aload_n 0, 1) := by decide +kernel
theorem dX3_init_51 : decode cX3_init 51 = .ok (.iconst 0, 1) := by decide +kernel
theorem dX3_init_52 : decode cX3_init 52 = .ok (.putfield 31, 3) := by decide +kernel
theorem dX3_init_55 : decode cX3_init 55 = .ok (.aload_n 0, 1) := by decide +kernel
theorem dX3_init_56 : decode cX3_init 56 = .ok (.iconst 0, 1) := by decide +kernel
theorem dX3_init_57 : decode cX3_init 57 = .ok (.putfield 34, 3) := by decide +kernel
theorem dX3_init_60 : decode cX3_init 60 = .ok (.aload_n 0, 1) := by decide +kernel
theorem dX3_init_61 : decode cX3_init 61 = .ok (.iconst 0, 1) := by decide +kernel
theorem dX3_init_62 : decode cX3_init 62 = .ok (.putfield 37, 3) := by decide +kernel
theorem dX3_init_65 : decode cX3_init 65 = .ok (.return_, 1) := by decide +kernel
theorem dX3_add_0 : decode cX3_add 0 = .ok (.aload_n 0, 1) := by decide +kernel
theorem dX3_add_1 : decode cX3_add 1 = .ok (.getfield 27, 3) := by decide +kernel
theorem dX3_add_4 : decode cX3_add 4 = .ok (.istore 4, 2) := by decide +kernel
theorem dX3_add_6 : decode cX3_add 6 = .ok (.aload_n 0, 1) := by decide +kernel
theorem dX3_add_7 : decode cX3_add 7 = .ok (.dup, 1) := by decide +kernel
theorem dX3_add_8 : decode cX3_add 8 = .ok (.getfield 27, 3) := by decide +kernel
theorem dX3_add_11 : decode cX3_add 11 = .ok (.iconst 1, 1) := by decide +kernel
theorem dX3_add_12 : decode cX3_add 12 = .ok (.iadd, 1) := by decide +kernel
theorem dX3_add_13 : decode cX3_add 13 = .ok (.putfield 27, 3) := by decide +kernel
theorem dX3_add_16 : decode cX3_add 16 = .ok (.aload_n 0, 1) := by decide +kernel
theorem dX3_add_17 : decode cX3_add 17 = .ok (.getfield 9, 3) := by decide +kernel
theorem dX3_add_20 : decode cX3_add 20 = .ok (.iload 4, 2) := by decide +kernel
theorem dX3_add_22 : decode cX3_add 22 = .ok (.iload_n 1, 1) := by decide +kernel
theorem dX3_add_23 : decode cX3_add 23 = .ok (.iastore, 1) := by decide +kernel
theorem dX3_add_24 : decode cX3_add 24 = .ok (.aload_n 0, 1) := by decide +kernel
theorem dX3_add_25 : decode cX3_add 25 = .ok (.getfield 15, 3) := by decide +kernel
theorem dX3_add_28 : decode cX3_add 28 = .ok (.iload 4, 2) := by decide +kernel
theorem dX3_add_30 : decode cX3_add 30 = .ok (.iload_n 3, 1) := by decide +kernel
theorem dX3_add_31 : decode cX3_add 31 = .ok (.iastore, 1) := by decide +kernel
theorem dX3_add_32 : decode cX3_add 32 = .ok (.iload_n 2, 1) := by decide +kernel
theorem dX3_add_33 : decode cX3_add 33 = .ok (.iconst 1, 1) := by decide +kernel
theorem dX3_add_34 : decode cX3_add 34 = .ok (.bipush 6, 2) := by decide +kernel
theorem dX3_add_36 : decode cX3_add 36 = .ok (.iload_n 1, 1) := by decide +kernel
theorem dX3_add_37 : decode cX3_add 37 = .ok (.iadd, 1) := by decide +kernel
theorem dX3_add_38 : decode cX3_add 38 = .ok (.ishl, 1) := by decide +kernel
theorem dX3_add_39 : decode cX3_add 39 = .ok (.ior, 1) := by decide +kernel
theorem dX3_add_40 : decode cX3_add 40 = .ok (.istore 5, 2) := by decide +kernel
theorem dX3_add_42 : decode cX3_add 42 = .ok (.iconst 1, 1) := by decide +kernel
theorem dX3_add_43 : decode cX3_add 43 = .ok (.iload 4, 2) := by decide +kernel
theorem dX3_add_45 : decode cX3_add 45 = .ok (.ishl, 1) := by decide +kernel
theorem dX3_add_46 : decode cX3_add 46 = .ok (.istore 6, 2) := by decide +kernel
theorem dX3_add_48 : decode cX3_add 48 = .ok (.iconst 0, 1) := by decide +kernel
theorem dX3_add_49 : decode cX3_add 49 = .ok (.istore 7, 2) := by decide +kernel
theorem dX3_add_51 : decode cX3_add 51 = .ok (.iload 7, 2) := by decide +kernel
theorem dX3_add_53 : decode cX3_add 53 = .ok (.iload 6, 2) := by decide +kernel
theorem dX3_add_55 : decode cX3_add 55 = .ok (.if_icmp .ge 90, 3) := by decide +kernel
theorem dX3_add_58 : decode cX3_add 58 = .ok (.iload 7, 2) := by decide +kernel
theorem dX3_add_60 : decode cX3_add 60 = .ok (.iload 6, 2) := by decide +kernel
theorem dX3_add_62 : decode cX3_add 62 = .ok (.ior, 1) := by decide +kernel
theorem dX3_add_63 : decode cX3_add 63 = .ok (.istore 8, 2) := by decide +kernel
theorem dX3_add_65 : decode cX3_add 65 = .ok (.aload_n 0, 1) := by decide +kernel
theorem dX3_add_66 : decode cX3_add 66 = .ok (.getfield 21, 3) := by decide +kernel
theorem dX3_add_69 : decode cX3_add 69 = .ok (.iload 7, 2) := by decide +kernel
theorem dX3_add_71 : decode cX3_add 71 = .ok (.iaload, 1) := by decide +kernel
theorem dX3_add_72 : decode cX3_add 72 = .ok (.iconst (-1), 1) := by decide +kernel
theorem dX3_add_73 : decode cX3_add 73 = .ok (.if_icmp .eq 16, 3) := by decide +kernel
theorem dX3_add_76 : decode cX3_add 76 = .ok (.aload_n 0, 1) := by decide +kernel
theorem dX3_add_77 : decode cX3_add 77 = .ok (.getfield 18, 3) := by decide +kernel
theorem dX3_add_80 : decode cX3_add 80 = .ok (.iload 7, 2) := by decide +kernel
theorem dX3_add_82 : decode cX3_add 82 = .ok (.iaload, 1) := by decide +kernel
theorem dX3_add_83 : decode cX3_add 83 = .ok (.iload 5, 2) := by decide +kernel
theorem dX3_add_85 : decode cX3_add 85 = .ok (.iand, 1) := by decide +kernel
theorem dX3_add_86 : decode cX3_add 86 = .ok (.ifCond .eq 14, 3) := by decide +kernel
theorem dX3_add_89 : decode cX3_add 89 = .ok (.aload_n 0, 1) := by decide +kernel
theorem dX3_add_90 : decode cX3_add 90 = .ok (.getfield 21, 3) := by decide +kernel
theorem dX3_add_93 : decode cX3_add 93 = .ok (.iload 8, 2) := by decide +kernel
theorem dX3_add_95 : decode cX3_add 95 = .ok (.iconst (-1), 1) := by decide +kernel
theorem dX3_add_96 : decode cX3_add 96 = .ok (.iastore, 1) := by decide +kernel
theorem dX3_add_97 : decode cX3_add 97 = .ok (.goto 42, 3) := by decide +kernel
theorem dX3_add_100 : decode cX3_add 100 = .ok (.aload_n 0, 1) := by decide +kernel
theorem dX3_add_101 : decode cX3_add 101 = .ok (.getfield 21, 3) := by decide +kernel
theorem dX3_add_104 : decode cX3_add 104 = .ok (.iload 8, 2) := by decide +kernel
theorem dX3_add_106 : decode cX3_add 106 = .ok (.aload_n 0, 1) := by decide +kernel
theorem dX3_add_107 : decode cX3_add 107 = .ok (.getfield 21, 3) := by decide +kernel
theorem dX3_add_110 : decode cX3_add 110 = .ok (.iload 7, 2) := by decide +kernel
theorem dX3_add_112 : decode cX3_add 112 = .ok (.iaload, 1) := by decide +kernel
theorem dX3_add_113 : decode cX3_add 113 = .ok (.iload_n 3, 1) := by decide +kernel
theorem dX3_add_114 : decode cX3_add 114 = .ok (.iadd, 1) := by decide +kernel
theorem dX3_add_115 : decode cX3_add 115 = .ok (.iastore, 1) := by decide +kernel
theorem dX3_add_116 : decode cX3_add 116 = .ok (.aload_n 0, 1) := by decide +kernel
theorem dX3_add_117 : decode cX3_add 117 = .ok (.getfield 18, 3) := by decide +kernel
theorem dX3_add_120 : decode cX3_add 120 = .ok (.iload 8, 2) := by decide +kernel
theorem dX3_add_122 : decode cX3_add 122 = .ok (.aload_n 0, 1) := by decide +kernel
theorem dX3_add_123 : decode cX3_add 123 = .ok (.getfield 18, 3) := by decide +kernel
theorem dX3_add_126 : decode cX3_add 126 = .ok (.iload 7, 2) := by decide +kernel
theorem dX3_add_128 : decode cX3_add 128 = .ok (.iaload, 1) := by decide +kernel
theorem dX3_add_129 : decode cX3_add 129 = .ok (.iload 5, 2) := by decide +kernel
theorem dX3_add_131 : decode cX3_add 131 = .ok (.ior, 1) := by decide +kernel
theorem dX3_add_132 : decode cX3_add 132 = .ok (.iastore, 1) := by decide +kernel
theorem dX3_add_133 : decode cX3_add 133 = .ok (.aload_n 0, 1) := by decide +kernel
theorem dX3_add_134 : decode cX3_add 134 = .ok (.iload 8, 2) := by decide +kernel
theorem dX3_add_136 : decode cX3_add 136 = .ok (.invokevirtual 40, 3) := by decide +kernel
theorem dX3_add_139 : decode cX3_add 139 = .ok (.iinc 7 1, 3) := by decide +kernel
theorem dX3_add_142 : decode cX3_add 142 = .ok (.goto (-91), 3) := by decide +kernel
theorem dX3_add_145 : decode cX3_add 145 = .ok (.iload 4, 2) := by decide +kernel
theorem dX3_add_147 : decode cX3_add 147 = .ok (.ireturn, 1) := by decide +kernel
theorem dX3_weigh_0 : decode cX3_weigh 0 = .ok (.aload_n 0, 1) := by decide +kernel
theorem dX3_weigh_1 : decode cX3_weigh 1 = .ok (.getfield 21, 3) := by decide +kernel
theorem dX3_weigh_4 : decode cX3_weigh 4 = .ok (.iload_n 1, 1) := by decide +kernel
theorem dX3_weigh_5 : decode cX3_weigh 5 = .ok (.iaload, 1) := by decide +kernel
theorem dX3_weigh_6 : decode cX3_weigh 6 = .ok (.aload_n 0, 1) := by decide +kernel
theorem dX3_weigh_7 : decode cX3_weigh 7 = .ok (.getfield 34, 3) := by decide +kernel
theorem dX3_weigh_10 : decode cX3_weigh 10 = .ok (.if_icmp .le 18, 3) := by decide +kernel
theorem dX3_weigh_13 : decode cX3_weigh 13 = .ok (.aload_n 0, 1) := by decide +kernel
theorem dX3_weigh_14 : decode cX3_weigh 14 = .ok (.aload_n 0, 1) := by decide +kernel
theorem dX3_weigh_15 : decode cX3_weigh 15 = .ok (.getfield 21, 3) := by decide +kernel
theorem dX3_weigh_18 : decode cX3_weigh 18 = .ok (.iload_n 1, 1) := by decide +kernel
theorem dX3_weigh_19 : decode cX3_weigh 19 = .ok (.iaload, 1) := by decide +kernel
theorem dX3_weigh_20 : decode cX3_weigh 20 = .ok (.putfield 34, 3) := by decide +kernel
theorem dX3_weigh_23 : decode cX3_weigh 23 = .ok (.aload_n 0, 1) := by decide +kernel
theorem dX3_weigh_24 : decode cX3_weigh 24 = .ok (.iload_n 1, 1) := by decide +kernel
theorem dX3_weigh_25 : decode cX3_weigh 25 = .ok (.putfield 31, 3) := by decide +kernel
theorem dX3_weigh_28 : decode cX3_weigh 28 = .ok (.iconst 0, 1) := by decide +kernel
theorem dX3_weigh_29 : decode cX3_weigh 29 = .ok (.istore_n 2, 1) := by decide +kernel
theorem dX3_weigh_30 : decode cX3_weigh 30 = .ok (.iload_n 2, 1) := by decide +kernel
theorem dX3_weigh_31 : decode cX3_weigh 31 = .ok (.iconst 5, 1) := by decide +kernel
theorem dX3_weigh_32 : decode cX3_weigh 32 = .ok (.if_icmp .ge 52, 3) := by decide +kernel
theorem dX3_weigh_35 : decode cX3_weigh 35 = .ok (.aload_n 0, 1) := by decide +kernel
theorem dX3_weigh_36 : decode cX3_weigh 36 = .ok (.getfield 18, 3) := by decide +kernel
theorem dX3_weigh_39 : decode cX3_weigh 39 = .ok (.iload_n 1, 1) := by decide +kernel
theorem dX3_weigh_40 : decode cX3_weigh 40 = .ok (.iaload, 1) := by decide +kernel
theorem dX3_weigh_41 : decode cX3_weigh 41 = .ok (.bipush 6, 2) := by decide +kernel
theorem dX3_weigh_43 : decode cX3_weigh 43 = .ok (.iload_n 2, 1) := by decide +kernel
theorem dX3_weigh_44 : decode cX3_weigh 44 = .ok (.iadd, 1) := by decide +kernel
theorem dX3_weigh_45 : decode cX3_weigh 45 = .ok (.invokestatic 44, 3) := by decide +kernel
theorem dX3_weigh_48 : decode cX3_weigh 48 = .ok (.ifCond .ne 30, 3) := by decide +kernel
theorem dX3_weigh_51 : decode cX3_weigh 51 = .ok (.aload_n 0, 1) := by decide +kernel
theorem dX3_weigh_52 : decode cX3_weigh 52 = .ok (.getfield 21, 3) := by decide +kernel
theorem dX3_weigh_55 : decode cX3_weigh 55 = .ok (.iload_n 1, 1) := by decide +kernel
theorem dX3_weigh_56 : decode cX3_weigh 56 = .ok (.iaload, 1) := by decide +kernel
theorem dX3_weigh_57 : decode cX3_weigh 57 = .ok (.aload_n 0, 1) := by decide +kernel
theorem dX3_weigh_58 : decode cX3_weigh 58 = .ok (.getfield 24, 3) := by decide +kernel
theorem dX3_weigh_61 : decode cX3_weigh 61 = .ok (.iload_n 2, 1) := by decide +kernel
theorem dX3_weigh_62 : decode cX3_weigh 62 = .ok (.iaload, 1) := by decide +kernel
theorem dX3_weigh_63 : decode cX3_weigh 63 = .ok (.if_icmp .le 15, 3) := by decide +kernel
theorem dX3_weigh_66 : decode cX3_weigh 66 = .ok (.aload_n 0, 1) := by decide +kernel
theorem dX3_weigh_67 : decode cX3_weigh 67 = .ok (.getfield 24, 3) := by decide +kernel
theorem dX3_weigh_70 : decode cX3_weigh 70 = .ok (.iload_n 2, 1) := by decide +kernel
theorem dX3_weigh_71 : decode cX3_weigh 71 = .ok (.aload_n 0, 1) := by decide +kernel
theorem dX3_weigh_72 : decode cX3_weigh 72 = .ok (.getfield 21, 3) := by decide +kernel
theorem dX3_weigh_75 : decode cX3_weigh 75 = .ok (.iload_n 1, 1) := by decide +kernel
theorem dX3_weigh_76 : decode cX3_weigh 76 = .ok (.iaload, 1) := by decide +kernel
theorem dX3_weigh_77 : decode cX3_weigh 77 = .ok (.iastore, 1) := by decide +kernel
theorem dX3_weigh_78 : decode cX3_weigh 78 = .ok (.iinc 2 1, 3) := by decide +kernel
theorem dX3_weigh_81 : decode cX3_weigh 81 = .ok (.goto (-51), 3) := by decide +kernel
theorem dX3_weigh_84 : decode cX3_weigh 84 = .ok (.return_, 1) := by decide +kernel
theorem dX3_winningPrice_0 : decode cX3_winningPrice 0 = .ok (.iconst 0, 1) := by decide +kernel
theorem dX3_winningPrice_1 : decode cX3_winningPrice 1 = .ok (.istore_n 2, 1) := by decide +kernel
theorem dX3_winningPrice_2 : decode cX3_winningPrice 2 = .ok (.iload_n 2, 1) := by decide +kernel
theorem dX3_winningPrice_3 : decode cX3_winningPrice 3 = .ok (.aload_n 0, 1) := by decide +kernel
theorem dX3_winningPrice_4 : decode cX3_winningPrice 4 = .ok (.getfield 27, 3) := by decide +kernel
theorem dX3_winningPrice_7 : decode cX3_winningPrice 7 = .ok (.if_icmp .ge 37, 3) := by decide +kernel
theorem dX3_winningPrice_10 : decode cX3_winningPrice 10 = .ok (.aload_n 0, 1) := by decide +kernel
theorem dX3_winningPrice_11 : decode cX3_winningPrice 11 = .ok (.getfield 31, 3) := by decide +kernel
theorem dX3_winningPrice_14 : decode cX3_winningPrice 14 = .ok (.iload_n 2, 1) := by decide +kernel
theorem dX3_winningPrice_15 : decode cX3_winningPrice 15 = .ok (.invokestatic 44, 3) := by decide +kernel
theorem dX3_winningPrice_18 : decode cX3_winningPrice 18 = .ok (.ifCond .eq 20, 3) := by decide +kernel
theorem dX3_winningPrice_21 : decode cX3_winningPrice 21 = .ok (.aload_n 0, 1) := by decide +kernel
theorem dX3_winningPrice_22 : decode cX3_winningPrice 22 = .ok (.getfield 9, 3) := by decide +kernel
theorem dX3_winningPrice_25 : decode cX3_winningPrice 25 = .ok (.iload_n 2, 1) := by decide +kernel
theorem dX3_winningPrice_26 : decode cX3_winningPrice 26 = .ok (.iaload, 1) := by decide +kernel
theorem dX3_winningPrice_27 : decode cX3_winningPrice 27 = .ok (.iload_n 1, 1) := by decide +kernel
theorem dX3_winningPrice_28 : decode cX3_winningPrice 28 = .ok (.if_icmp .ne 10, 3) := by decide +kernel
theorem dX3_winningPrice_31 : decode cX3_winningPrice 31 = .ok (.aload_n 0, 1) := by decide +kernel
theorem dX3_winningPrice_32 : decode cX3_winningPrice 32 = .ok (.getfield 15, 3) := by decide +kernel
theorem dX3_winningPrice_35 : decode cX3_winningPrice 35 = .ok (.iload_n 2, 1) := by decide +kernel
theorem dX3_winningPrice_36 : decode cX3_winningPrice 36 = .ok (.iaload, 1) := by decide +kernel
theorem dX3_winningPrice_37 : decode cX3_winningPrice 37 = .ok (.ireturn, 1) := by decide +kernel
theorem dX3_winningPrice_38 : decode cX3_winningPrice 38 = .ok (.iinc 2 1, 3) := by decide +kernel
theorem dX3_winningPrice_41 : decode cX3_winningPrice 41 = .ok (.goto (-39), 3) := by decide +kernel
theorem dX3_winningPrice_44 : decode cX3_winningPrice 44 = .ok (.iconst 0, 1) := by decide +kernel
theorem dX3_winningPrice_45 : decode cX3_winningPrice 45 = .ok (.ireturn, 1) := by decide +kernel
theorem dX3_paidBy_0 : decode cX3_paidBy 0 = .ok (.aload_n 0, 1) := by decide +kernel
theorem dX3_paidBy_1 : decode cX3_paidBy 1 = .ok (.iload_n 1, 1) := by decide +kernel
theorem dX3_paidBy_2 : decode cX3_paidBy 2 = .ok (.invokevirtual 48, 3) := by decide +kernel
theorem dX3_paidBy_5 : decode cX3_paidBy 5 = .ok (.istore_n 2, 1) := by decide +kernel
theorem dX3_paidBy_6 : decode cX3_paidBy 6 = .ok (.iload_n 2, 1) := by decide +kernel
theorem dX3_paidBy_7 : decode cX3_paidBy 7 = .ok (.ifCond .ne 7, 3) := by decide +kernel
theorem dX3_paidBy_10 : decode cX3_paidBy 10 = .ok (.iconst 0, 1) := by decide +kernel
theorem dX3_paidBy_11 : decode cX3_paidBy 11 = .ok (.goto 16, 3) := by decide +kernel
theorem dX3_paidBy_14 : decode cX3_paidBy 14 = .ok (.aload_n 0, 1) := by decide +kernel
theorem dX3_paidBy_15 : decode cX3_paidBy 15 = .ok (.getfield 24, 3) := by decide +kernel
theorem dX3_paidBy_18 : decode cX3_paidBy 18 = .ok (.iload_n 1, 1) := by decide +kernel
theorem dX3_paidBy_19 : decode cX3_paidBy 19 = .ok (.iaload, 1) := by decide +kernel
theorem dX3_paidBy_20 : decode cX3_paidBy 20 = .ok (.aload_n 0, 1) := by decide +kernel
theorem dX3_paidBy_21 : decode cX3_paidBy 21 = .ok (.getfield 34, 3) := by decide +kernel
theorem dX3_paidBy_24 : decode cX3_paidBy 24 = .ok (.iload_n 2, 1) := by decide +kernel
theorem dX3_paidBy_25 : decode cX3_paidBy 25 = .ok (.isub, 1) := by decide +kernel
theorem dX3_paidBy_26 : decode cX3_paidBy 26 = .ok (.isub, 1) := by decide +kernel
theorem dX3_paidBy_27 : decode cX3_paidBy 27 = .ok (.ireturn, 1) := by decide +kernel
theorem dX3_nobodyOverpays_0 : decode cX3_nobodyOverpays 0 = .ok (.iconst 0, 1) := by decide +kernel
theorem dX3_nobodyOverpays_1 : decode cX3_nobodyOverpays 1 = .ok (.istore_n 1, 1) := by decide +kernel
theorem dX3_nobodyOverpays_2 : decode cX3_nobodyOverpays 2 = .ok (.iload_n 1, 1) := by decide +kernel
theorem dX3_nobodyOverpays_3 : decode cX3_nobodyOverpays 3 = .ok (.iconst 5, 1) := by decide +kernel
theorem dX3_nobodyOverpays_4 : decode cX3_nobodyOverpays 4 = .ok (.if_icmp .ge 24, 3) := by decide +kernel
theorem dX3_nobodyOverpays_7 : decode cX3_nobodyOverpays 7 = .ok (.aload_n 0, 1) := by decide +kernel
theorem dX3_nobodyOverpays_8 : decode cX3_nobodyOverpays 8 = .ok (.iload_n 1, 1) := by decide +kernel
theorem dX3_nobodyOverpays_9 : decode cX3_nobodyOverpays 9 = .ok (.invokevirtual 52, 3) := by decide +kernel
theorem dX3_nobodyOverpays_12 : decode cX3_nobodyOverpays 12 = .ok (.aload_n 0, 1) := by decide +kernel
theorem dX3_nobodyOverpays_13 : decode cX3_nobodyOverpays 13 = .ok (.iload_n 1, 1) := by decide +kernel
theorem dX3_nobodyOverpays_14 : decode cX3_nobodyOverpays 14 = .ok (.invokevirtual 48, 3) := by decide +kernel
theorem dX3_nobodyOverpays_17 : decode cX3_nobodyOverpays 17 = .ok (.if_icmp .le 5, 3) := by decide +kernel
theorem dX3_nobodyOverpays_20 : decode cX3_nobodyOverpays 20 = .ok (.iconst 0, 1) := by decide +kernel
theorem dX3_nobodyOverpays_21 : decode cX3_nobodyOverpays 21 = .ok (.ireturn, 1) := by decide +kernel
theorem dX3_nobodyOverpays_22 : decode cX3_nobodyOverpays 22 = .ok (.iinc 1 1, 3) := by decide +kernel
theorem dX3_nobodyOverpays_25 : decode cX3_nobodyOverpays 25 = .ok (.goto (-23), 3) := by decide +kernel
theorem dX3_nobodyOverpays_28 : decode cX3_nobodyOverpays 28 = .ok (.iconst 1, 1) := by decide +kernel
theorem dX3_nobodyOverpays_29 : decode cX3_nobodyOverpays 29 = .ok (.ireturn, 1) := by decide +kernel
theorem dX3_sellAll_0 : decode cX3_sellAll 0 = .ok (.iconst 0, 1) := by decide +kernel
theorem dX3_sellAll_1 : decode cX3_sellAll 1 = .ok (.istore_n 1, 1) := by decide +kernel
theorem dX3_sellAll_2 : decode cX3_sellAll 2 = .ok (.iconst 0, 1) := by decide +kernel
theorem dX3_sellAll_3 : decode cX3_sellAll 3 = .ok (.istore_n 2, 1) := by decide +kernel
theorem dX3_sellAll_4 : decode cX3_sellAll 4 = .ok (.iload_n 2, 1) := by decide +kernel
theorem dX3_sellAll_5 : decode cX3_sellAll 5 = .ok (.iconst 5, 1) := by decide +kernel
theorem dX3_sellAll_6 : decode cX3_sellAll 6 = .ok (.if_icmp .ge 17, 3) := by decide +kernel
theorem dX3_sellAll_9 : decode cX3_sellAll 9 = .ok (.iload_n 1, 1) := by decide +kernel
theorem dX3_sellAll_10 : decode cX3_sellAll 10 = .ok (.aload_n 0, 1) := by decide +kernel
theorem dX3_sellAll_11 : decode cX3_sellAll 11 = .ok (.iload_n 2, 1) := by decide +kernel
theorem dX3_sellAll_12 : decode cX3_sellAll 12 = .ok (.invokevirtual 52, 3) := by decide +kernel
theorem dX3_sellAll_15 : decode cX3_sellAll 15 = .ok (.iadd, 1) := by decide +kernel
theorem dX3_sellAll_16 : decode cX3_sellAll 16 = .ok (.istore_n 1, 1) := by decide +kernel
theorem dX3_sellAll_17 : decode cX3_sellAll 17 = .ok (.iinc 2 1, 3) := by decide +kernel
theorem dX3_sellAll_20 : decode cX3_sellAll 20 = .ok (.goto (-16), 3) := by decide +kernel
theorem dX3_sellAll_23 : decode cX3_sellAll 23 = .ok (.aload_n 0, 1) := by decide +kernel
theorem dX3_sellAll_24 : decode cX3_sellAll 24 = .ok (.dup, 1) := by decide +kernel
theorem dX3_sellAll_25 : decode cX3_sellAll 25 = .ok (.getfield 37, 3) := by decide +kernel
theorem dX3_sellAll_28 : decode cX3_sellAll 28 = .ok (.iload_n 1, 1) := by decide +kernel
theorem dX3_sellAll_29 : decode cX3_sellAll 29 = .ok (.iadd, 1) := by decide +kernel
theorem dX3_sellAll_30 : decode cX3_sellAll 30 = .ok (.putfield 37, 3) := by decide +kernel
theorem dX3_sellAll_33 : decode cX3_sellAll 33 = .ok (.aload_n 0, 1) := by decide +kernel
theorem dX3_sellAll_34 : decode cX3_sellAll 34 = .ok (.invokevirtual 55, 3) := by decide +kernel
theorem dX3_sellAll_37 : decode cX3_sellAll 37 = .ok (.iload_n 1, 1) := by decide +kernel
theorem dX3_sellAll_38 : decode cX3_sellAll 38 = .ok (.ireturn, 1) := by decide +kernel
theorem dX3_forgetBids_0 : decode cX3_forgetBids 0 = .ok (.iconst 0, 1) := by decide +kernel
theorem dX3_forgetBids_1 : decode cX3_forgetBids 1 = .ok (.istore_n 1, 1) := by decide +kernel
theorem dX3_forgetBids_2 : decode cX3_forgetBids 2 = .ok (.iload_n 1, 1) := by decide +kernel
theorem dX3_forgetBids_3 : decode cX3_forgetBids 3 = .ok (.iconst 5, 1) := by decide +kernel
theorem dX3_forgetBids_4 : decode cX3_forgetBids 4 = .ok (.if_icmp .ge 16, 3) := by decide +kernel
theorem dX3_forgetBids_7 : decode cX3_forgetBids 7 = .ok (.aload_n 0, 1) := by decide +kernel
theorem dX3_forgetBids_8 : decode cX3_forgetBids 8 = .ok (.getfield 24, 3) := by decide +kernel
theorem dX3_forgetBids_11 : decode cX3_forgetBids 11 = .ok (.iload_n 1, 1) := by decide +kernel
theorem dX3_forgetBids_12 : decode cX3_forgetBids 12 = .ok (.iconst 0, 1) := by decide +kernel
theorem dX3_forgetBids_13 : decode cX3_forgetBids 13 = .ok (.iastore, 1) := by decide +kernel
theorem dX3_forgetBids_14 : decode cX3_forgetBids 14 = .ok (.iinc 1 1, 3) := by decide +kernel
theorem dX3_forgetBids_17 : decode cX3_forgetBids 17 = .ok (.goto (-15), 3) := by decide +kernel
theorem dX3_forgetBids_20 : decode cX3_forgetBids 20 = .ok (.aload_n 0, 1) := by decide +kernel
theorem dX3_forgetBids_21 : decode cX3_forgetBids 21 = .ok (.iconst 0, 1) := by decide +kernel
theorem dX3_forgetBids_22 : decode cX3_forgetBids 22 = .ok (.putfield 27, 3) := by decide +kernel
theorem dX3_forgetBids_25 : decode cX3_forgetBids 25 = .ok (.aload_n 0, 1) := by decide +kernel
theorem dX3_forgetBids_26 : decode cX3_forgetBids 26 = .ok (.iconst 0, 1) := by decide +kernel
theorem dX3_forgetBids_27 : decode cX3_forgetBids 27 = .ok (.putfield 31, 3) := by decide +kernel
theorem dX3_forgetBids_30 : decode cX3_forgetBids 30 = .ok (.aload_n 0, 1) := by decide +kernel
theorem dX3_forgetBids_31 : decode cX3_forgetBids 31 = .ok (.iconst 0, 1) := by decide +kernel
theorem dX3_forgetBids_32 : decode cX3_forgetBids 32 = .ok (.putfield 34, 3) := by decide +kernel
theorem dX3_forgetBids_35 : decode cX3_forgetBids 35 = .ok (.return_, 1) := by decide +kernel
theorem dX4_init_0 : decode cX4_init 0 = .ok (.aload_n 0, 1) := by decide +kernel
theorem dX4_init_1 : decode cX4_init 1 = .ok (.invokespecial 3, 3) := by decide +kernel
theorem dX4_init_4 : decode cX4_init 4 = .ok (.aload_n 0, 1) := by decide +kernel
theorem dX4_init_5 : decode cX4_init 5 = .ok (.iconst 0, 1) := by decide +kernel
theorem dX4_init_6 : decode cX4_init 6 = .ok (.putfield 9, 3) := by decide +kernel
theorem dX4_init_9 : decode cX4_init 9 = .ok (.aload_n 0, 1) := by decide +kernel
theorem dX4_init_10 : decode cX4_init 10 = .ok (.iconst 0, 1) := by decide +kernel
theorem dX4_init_11 : decode cX4_init 11 = .ok (.putfield 15, 3) := by decide +kernel
theorem dX4_init_14 : decode cX4_init 14 = .ok (.aload_n 0, 1) := by decide +kernel
theorem dX4_init_15 : decode cX4_init 15 = .ok (.iconst 0, 1) := by decide +kernel
theorem dX4_init_16 : decode cX4_init 16 = .ok (.putfield 18, 3) := by decide +kernel
theorem dX4_init_19 : decode cX4_init 19 = .ok (.aload_n 0, 1) := by decide +kernel
theorem dX4_init_20 : decode cX4_init 20 = .ok (.iconst 0, 1) := by decide +kernel
theorem dX4_init_21 : decode cX4_init 21 = .ok (.putfield 21, 3) := by decide +kernel
theorem dX4_init_24 : decode cX4_init 24 = .ok (.aload_n 0, 1) := by decide +kernel
theorem dX4_init_25 : decode cX4_init 25 = .ok (.new 25, 3) := by decide +kernel
theorem dX4_init_28 : decode cX4_init 28 = .ok (.dup, 1) := by decide +kernel
theorem dX4_init_29 : decode cX4_init 29 = .ok (.invokespecial 27, 3) := by decide +kernel
theorem dX4_init_32 : decode cX4_init 32 = .ok (.putfield 28, 3) := by decide +kernel
theorem dX4_init_35 : decode cX4_init 35 = .ok (.aload_n 0, 1) := by decide +kernel
theorem dX4_init_36 : decode cX4_init 36 = .ok (.iconst 0, 1) := by decide +kernel
theorem dX4_init_37 : decode cX4_init 37 = .ok (.putfield 32, 3) := by decide +kernel
theorem dX4_init_40 : decode cX4_init 40 = .ok (.aload_n 0, 1) := by decide +kernel
theorem dX4_init_41 : decode cX4_init 41 = .ok (.iconst 0, 1) := by decide +kernel
theorem dX4_init_42 : decode cX4_init 42 = .ok (.putfield 35, 3) := by decide +kernel
theorem dX4_init_45 : decode cX4_init 45 = .ok (.aload_n 0, 1) := by decide +kernel
theorem dX4_init_46 : decode cX4_init 46 = .ok (.iconst 0, 1) := by decide +kernel
theorem dX4_init_47 : decode cX4_init 47 = .ok (.putfield 38, 3) := by decide +kernel
theorem dX4_init_50 : decode cX4_init 50 = .ok (.aload_n 0, 1) := by decide +kernel
theorem dX4_init_51 : decode cX4_init 51 = .ok (.iconst (-1), 1) := by decide +kernel
theorem dX4_init_52 : decode cX4_init 52 = .ok (.putfield 41, 3) := by decide +kernel
theorem dX4_init_55 : decode cX4_init 55 = .ok (.aload_n 0, 1) := by decide +kernel
theorem dX4_init_56 : decode cX4_init 56 = .ok (.iconst 0, 1) := by decide +kernel
theorem dX4_init_57 : decode cX4_init 57 = .ok (.putfield 44, 3) := by decide +kernel
theorem dX4_init_60 : decode cX4_init 60 = .ok (.aload_n 0, 1) := by decide +kernel
theorem dX4_init_61 : decode cX4_init 61 = .ok (.iconst 0, 1) := by decide +kernel
theorem dX4_init_62 : decode cX4_init 62 = .ok (.putfield 47, 3) := by decide +kernel
theorem dX4_init_65 : decode cX4_init 65 = .ok (.aload_n 0, 1) := by decide +kernel
theorem dX4_init_66 : decode cX4_init 66 = .ok (.iconst 0, 1) := by decide +kernel
theorem dX4_init_67 : decode cX4_init 67 = .ok (.putfield 50, 3) := by decide +kernel
theorem dX4_init_70 : decode cX4_init 70 = .ok (.aload_n 0, 1) := by decide +kernel
theorem dX4_init_71 : decode cX4_init 71 = .ok (.iconst 0, 1) := by decide +kernel
theorem dX4_init_72 : decode cX4_init 72 = .ok (.putfield 53, 3) := by decide +kernel
theorem dX4_init_75 : decode cX4_init 75 = .ok (.aload_n 0, 1) := by decide +kernel
theorem dX4_init_76 : decode cX4_init 76 = .ok (.iconst 0, 1) := by decide +kernel
theorem dX4_init_77 : decode cX4_init 77 = .ok (.putfield 56, 3) := by decide +kernel
theorem dX4_init_80 : decode cX4_init 80 = .ok (.aload_n 0, 1) := by decide +kernel
theorem dX4_init_81 : decode cX4_init 81 = .ok (.iconst 0, 1) := by decide +kernel
theorem dX4_init_82 : decode cX4_init 82 = .ok (.putfield 59, 3) := by decide +kernel
theorem dX4_init_85 : decode cX4_init 85 = .ok (.aload_n 0, 1) := by decide +kernel
theorem dX4_init_86 : decode cX4_init 86 = .ok (.new 62, 3) := by decide +kernel
theorem dX4_init_89 : decode cX4_init 89 = .ok (.dup, 1) := by decide +kernel
theorem dX4_init_90 : decode cX4_init 90 = .ok (.invokespecial 64, 3) := by decide +kernel
theorem dX4_init_93 : decode cX4_init 93 = .ok (.putfield 65, 3) := by decide +kernel
theorem dX4_init_96 : decode cX4_init 96 = .ok (.return_, 1) := by decide +kernel
theorem dX4_isSending_0 : decode cX4_isSending 0 = .ok (.aload_n 0, 1) := by decide +kernel
theorem dX4_isSending_1 : decode cX4_isSending 1 = .ok (.getfield 38, 3) := by decide +kernel
theorem dX4_isSending_4 : decode cX4_isSending 4 = .ok (.ifCond .le 7, 3) := by decide +kernel
theorem dX4_isSending_7 : decode cX4_isSending 7 = .ok (.iconst 1, 1) := by decide +kernel
theorem dX4_isSending_8 : decode cX4_isSending 8 = .ok (.goto 4, 3) := by decide +kernel
theorem dX4_isSending_11 : decode cX4_isSending 11 = .ok (.iconst 0, 1) := by decide +kernel
theorem dX4_isSending_12 : decode cX4_isSending 12 = .ok (.ireturn, 1) := by decide +kernel
theorem dX4_begin_0 : decode cX4_begin 0 = .ok (.aload_n 0, 1) := by decide +kernel
theorem dX4_begin_1 : decode cX4_begin 1 = .ok (.dup, 1) := by decide +kernel
theorem dX4_begin_2 : decode cX4_begin 2 = .ok (.getfield 50, 3) := by decide +kernel
theorem dX4_begin_5 : decode cX4_begin 5 = .ok (.iconst 1, 1) := by decide +kernel
theorem dX4_begin_6 : decode cX4_begin 6 = .ok (.iadd, 1) := by decide +kernel
theorem dX4_begin_7 : decode cX4_begin 7 = .ok (.putfield 50, 3) := by decide +kernel
theorem dX4_begin_10 : decode cX4_begin 10 = .ok (.aload_n 0, 1) := by decide +kernel
theorem dX4_begin_11 : decode cX4_begin 11 = .ok (.iload_n 1, 1) := by decide +kernel
theorem dX4_begin_12 : decode cX4_begin 12 = .ok (.putfield 38, 3) := by decide +kernel
theorem dX4_begin_15 : decode cX4_begin 15 = .ok (.aload_n 0, 1) := by decide +kernel
theorem dX4_begin_16 : decode cX4_begin 16 = .ok (.iload_n 2, 1) := by decide +kernel
theorem dX4_begin_17 : decode cX4_begin 17 = .ok (.putfield 41, 3) := by decide +kernel
theorem dX4_begin_20 : decode cX4_begin 20 = .ok (.aload_n 0, 1) := by decide +kernel
theorem dX4_begin_21 : decode cX4_begin 21 = .ok (.iconst 1, 1) := by decide +kernel
theorem dX4_begin_22 : decode cX4_begin 22 = .ok (.putfield 44, 3) := by decide +kernel
theorem dX4_begin_25 : decode cX4_begin 25 = .ok (.return_, 1) := by decide +kernel
theorem dX4_finishFirst_0 : decode cX4_finishFirst 0 = .ok (.aload_n 0, 1) := by decide +kernel
theorem dX4_finishFirst_1 : decode cX4_finishFirst 1 = .ok (.getfield 28, 3) := by decide +kernel
theorem dX4_finishFirst_4 : decode cX4_finishFirst 4 = .ok (.invokevirtual 69, 3) := by decide +kernel
theorem dX4_finishFirst_7 : decode cX4_finishFirst 7 = .ok (.aload_n 0, 1) := by decide +kernel
theorem dX4_finishFirst_8 : decode cX4_finishFirst 8 = .ok (.iconst 0, 1) := by decide +kernel
theorem dX4_finishFirst_9 : decode cX4_finishFirst 9 = .ok (.putfield 35, 3) := by decide +kernel
theorem dX4_finishFirst_12 : decode cX4_finishFirst 12 = .ok (.return_, 1) := by decide +kernel
theorem dX4_waitAgain_0 : decode cX4_waitAgain 0 = .ok (.aload_n 0, 1) := by decide +kernel
theorem dX4_waitAgain_1 : decode cX4_waitAgain 1 = .ok (.iload_n 1, 1) := by decide +kernel
theorem dX4_waitAgain_2 : decode cX4_waitAgain 2 = .ok (.putfield 32, 3) := by decide +kernel
theorem dX4_waitAgain_5 : decode cX4_waitAgain 5 = .ok (.aload_n 0, 1) := by decide +kernel
theorem dX4_waitAgain_6 : decode cX4_waitAgain 6 = .ok (.dup, 1) := by decide +kernel
theorem dX4_waitAgain_7 : decode cX4_waitAgain 7 = .ok (.getfield 53, 3) := by decide +kernel
theorem dX4_waitAgain_10 : decode cX4_waitAgain 10 = .ok (.iload_n 1, 1) := by decide +kernel
theorem dX4_waitAgain_11 : decode cX4_waitAgain 11 = .ok (.iadd, 1) := by decide +kernel
theorem dX4_waitAgain_12 : decode cX4_waitAgain 12 = .ok (.putfield 53, 3) := by decide +kernel
theorem dX4_waitAgain_15 : decode cX4_waitAgain 15 = .ok (.aload_n 0, 1) := by decide +kernel
theorem dX4_waitAgain_16 : decode cX4_waitAgain 16 = .ok (.dup, 1) := by decide +kernel
theorem dX4_waitAgain_17 : decode cX4_waitAgain 17 = .ok (.getfield 56, 3) := by decide +kernel
theorem dX4_waitAgain_20 : decode cX4_waitAgain 20 = .ok (.iconst 1, 1) := by decide +kernel
theorem dX4_waitAgain_21 : decode cX4_waitAgain 21 = .ok (.iadd, 1) := by decide +kernel
theorem dX4_waitAgain_22 : decode cX4_waitAgain 22 = .ok (.putfield 56, 3) := by decide +kernel
theorem dX4_waitAgain_25 : decode cX4_waitAgain 25 = .ok (.return_, 1) := by decide +kernel
theorem dX4_isInOrder_0 : decode cX4_isInOrder 0 = .ok (.aload_n 0, 1) := by decide +kernel
theorem dX4_isInOrder_1 : decode cX4_isInOrder 1 = .ok (.getfield 38, 3) := by decide +kernel
theorem dX4_isInOrder_4 : decode cX4_isInOrder 4 = .ok (.ifCond .eq 25, 3) := by decide +kernel
theorem dX4_isInOrder_7 : decode cX4_isInOrder 7 = .ok (.aload_n 0, 1) := by decide +kernel
theorem dX4_isInOrder_8 : decode cX4_isInOrder 8 = .ok (.getfield 28, 3) := by decide +kernel
theorem dX4_isInOrder_11 : decode cX4_isInOrder 11 = .ok (.getfield 76, 3) := by decide +kernel
theorem dX4_isInOrder_14 : decode cX4_isInOrder 14 = .ok (.ifCond .le 19, 3) := by decide +kernel
theorem dX4_isInOrder_17 : decode cX4_isInOrder 17 = .ok (.aload_n 0, 1) := by decide +kernel
theorem dX4_isInOrder_18 : decode cX4_isInOrder 18 = .ok (.getfield 38, 3) := by decide +kernel
theorem dX4_isInOrder_21 : decode cX4_isInOrder 21 = .ok (.iconst 1, 1) := by decide +kernel
theorem dX4_isInOrder_22 : decode cX4_isInOrder 22 = .ok (.iconst 3, 1) := by decide +kernel
theorem dX4_isInOrder_23 : decode cX4_isInOrder 23 = .ok (.invokestatic 79, 3) := by decide +kernel
theorem dX4_isInOrder_26 : decode cX4_isInOrder 26 = .ok (.ifCond .eq 7, 3) := by decide +kernel
theorem dX4_isInOrder_29 : decode cX4_isInOrder 29 = .ok (.iconst 1, 1) := by decide +kernel
theorem dX4_isInOrder_30 : decode cX4_isInOrder 30 = .ok (.goto 4, 3) := by decide +kernel
theorem dX4_isInOrder_33 : decode cX4_isInOrder 33 = .ok (.iconst 0, 1) := by decide +kernel
theorem dX4_isInOrder_34 : decode cX4_isInOrder 34 = .ok (.istore_n 1, 1) := by decide +kernel
theorem dX4_isInOrder_35 : decode cX4_isInOrder 35 = .ok (.iload_n 1, 1) := by decide +kernel
theorem dX4_isInOrder_36 : decode cX4_isInOrder 36 = .ok (.ifCond .eq 30, 3) := by decide +kernel
theorem dX4_isInOrder_39 : decode cX4_isInOrder 39 = .ok (.aload_n 0, 1) := by decide +kernel
theorem dX4_isInOrder_40 : decode cX4_isInOrder 40 = .ok (.getfield 28, 3) := by decide +kernel
theorem dX4_isInOrder_43 : decode cX4_isInOrder 43 = .ok (.getfield 76, 3) := by decide +kernel
theorem dX4_isInOrder_46 : decode cX4_isInOrder 46 = .ok (.iconst 4, 1) := by decide +kernel
theorem dX4_isInOrder_47 : decode cX4_isInOrder 47 = .ok (.if_icmp .gt 19, 3) := by decide +kernel
theorem dX4_isInOrder_50 : decode cX4_isInOrder 50 = .ok (.aload_n 0, 1) := by decide +kernel
theorem dX4_isInOrder_51 : decode cX4_isInOrder 51 = .ok (.getfield 35, 3) := by decide +kernel
theorem dX4_isInOrder_54 : decode cX4_isInOrder 54 = .ok (.iconst 0, 1) := by decide +kernel
theorem dX4_isInOrder_55 : decode cX4_isInOrder 55 = .ok (.iconst 4, 1) := by decide +kernel
theorem dX4_isInOrder_56 : decode cX4_isInOrder 56 = .ok (.invokestatic 79, 3) := by decide +kernel
theorem dX4_isInOrder_59 : decode cX4_isInOrder 59 = .ok (.ifCond .eq 7, 3) := by decide +kernel
theorem dX4_isInOrder_62 : decode cX4_isInOrder 62 = .ok (.iconst 1, 1) := by decide +kernel
theorem dX4_isInOrder_63 : decode cX4_isInOrder 63 = .ok (.goto 4, 3) := by decide +kernel
theorem dX4_isInOrder_66 : decode cX4_isInOrder 66 = .ok (.iconst 0, 1) := by decide +kernel
theorem dX4_isInOrder_67 : decode cX4_isInOrder 67 = .ok (.ireturn, 1) := by decide +kernel
theorem dX5_init_0 : decode cX5_init 0 = .ok (.aload_n 0, 1) := by decide +kernel
theorem dX5_init_1 : decode cX5_init 1 = .ok (.invokespecial 1, 3) := by decide +kernel
theorem dX5_init_4 : decode cX5_init 4 = .ok (.aload_n 0, 1) := by decide +kernel
theorem dX5_init_5 : decode cX5_init 5 = .ok (.bipush 8, 2) := by decide +kernel
theorem dX5_init_7 : decode cX5_init 7 = .ok (.newarray .long, 2) := by decide +kernel
theorem dX5_init_9 : decode cX5_init 9 = .ok (.putfield 9, 3) := by decide +kernel
theorem dX5_init_12 : decode cX5_init 12 = .ok (.return_, 1) := by decide +kernel
theorem dX5_has_0 : decode cX5_has 0 = .ok (.iload_n 1, 1) := by decide +kernel
theorem dX5_has_1 : decode cX5_has 1 = .ok (.ifCond .lt 35, 3) := by decide +kernel
theorem dX5_has_4 : decode cX5_has 4 = .ok (.iload_n 1, 1) := by decide +kernel
theorem dX5_has_5 : decode cX5_has 5 = .ok (.sipush 512, 3) := by decide +kernel
theorem dX5_has_8 : decode cX5_has 8 = .ok (.if_icmp .ge 28, 3) := by decide +kernel
theorem dX5_has_11 : decode cX5_has 11 = .ok (.aload_n 0, 1) := by decide +kernel
theorem dX5_has_12 : decode cX5_has 12 = .ok (.getfield 9, 3) := by decide +kernel
theorem dX5_has_15 : decode cX5_has 15 = .ok (.iload_n 1, 1) := by decide +kernel
theorem dX5_has_16 : decode cX5_has 16 = .ok (.bipush 64, 2) := by decide +kernel
theorem dX5_has_18 : decode cX5_has 18 = .ok (.idiv, 1) := by decide +kernel
theorem dX5_has_19 : decode cX5_has 19 = .ok (.laload, 1) := by decide +kernel
theorem dX5_has_20 : decode cX5_has 20 = .ok (.iload_n 1, 1) := by decide +kernel
theorem dX5_has_21 : decode cX5_has 21 = .ok (.bipush 64, 2) := by decide +kernel
theorem dX5_has_23 : decode cX5_has 23 = .ok (.irem, 1) := by decide +kernel
theorem dX5_has_24 : decode cX5_has 24 = .ok (.lshr, 1) := by decide +kernel
theorem dX5_has_25 : decode cX5_has 25 = .ok (.lconst 1, 1) := by decide +kernel
theorem dX5_has_26 : decode cX5_has 26 = .ok (.land, 1) := by decide +kernel
theorem dX5_has_27 : decode cX5_has 27 = .ok (.lconst 0, 1) := by decide +kernel
theorem dX5_has_28 : decode cX5_has 28 = .ok (.lcmp, 1) := by decide +kernel
theorem dX5_has_29 : decode cX5_has 29 = .ok (.ifCond .eq 7, 3) := by decide +kernel
theorem dX5_has_32 : decode cX5_has 32 = .ok (.iconst 1, 1) := by decide +kernel
theorem dX5_has_33 : decode cX5_has 33 = .ok (.goto 4, 3) := by decide +kernel
theorem dX5_has_36 : decode cX5_has 36 = .ok (.iconst 0, 1) := by decide +kernel
theorem dX5_has_37 : decode cX5_has 37 = .ok (.ireturn, 1) := by decide +kernel
theorem dX5_put_0 : decode cX5_put 0 = .ok (.iload_n 1, 1) := by decide +kernel
theorem dX5_put_1 : decode cX5_put 1 = .ok (.ifCond .lt 28, 3) := by decide +kernel
theorem dX5_put_4 : decode cX5_put 4 = .ok (.iload_n 1, 1) := by decide +kernel
theorem dX5_put_5 : decode cX5_put 5 = .ok (.sipush 512, 3) := by decide +kernel
theorem dX5_put_8 : decode cX5_put 8 = .ok (.if_icmp .ge 21, 3) := by decide +kernel
theorem dX5_put_11 : decode cX5_put 11 = .ok (.aload_n 0, 1) := by decide +kernel
theorem dX5_put_12 : decode cX5_put 12 = .ok (.getfield 9, 3) := by decide +kernel
theorem dX5_put_15 : decode cX5_put 15 = .ok (.iload_n 1, 1) := by decide +kernel
theorem dX5_put_16 : decode cX5_put 16 = .ok (.bipush 64, 2) := by decide +kernel
theorem dX5_put_18 : decode cX5_put 18 = .ok (.idiv, 1) := by decide +kernel
theorem dX5_put_19 : decode cX5_put 19 = .ok (.dup2, 1) := by decide +kernel
theorem dX5_put_20 : decode cX5_put 20 = .ok (.laload, 1) := by decide +kernel
theorem dX5_put_21 : decode cX5_put 21 = .ok (.lconst 1, 1) := by decide +kernel
theorem dX5_put_22 : decode cX5_put 22 = .ok (.iload_n 1, 1) := by decide +kernel
theorem dX5_put_23 : decode cX5_put 23 = .ok (.bipush 64, 2) := by decide +kernel
theorem dX5_put_25 : decode cX5_put 25 = .ok (.irem, 1) := by decide +kernel
theorem dX5_put_26 : decode cX5_put 26 = .ok (.lshl, 1) := by decide +kernel
theorem dX5_put_27 : decode cX5_put 27 = .ok (.lor, 1) := by decide +kernel
theorem dX5_put_28 : decode cX5_put 28 = .ok (.lastore, 1) := by decide +kernel
theorem dX5_put_29 : decode cX5_put 29 = .ok (.return_, 1) := by decide +kernel
theorem dX5_size_0 : decode cX5_size 0 = .ok (.iconst 0, 1) := by decide +kernel
theorem dX5_size_1 : decode cX5_size 1 = .ok (.istore_n 1, 1) := by decide +kernel
theorem dX5_size_2 : decode cX5_size 2 = .ok (.iconst 0, 1) := by decide +kernel
theorem dX5_size_3 : decode cX5_size 3 = .ok (.istore_n 2, 1) := by decide +kernel
theorem dX5_size_4 : decode cX5_size 4 = .ok (.iload_n 2, 1) := by decide +kernel
theorem dX5_size_5 : decode cX5_size 5 = .ok (.aload_n 0, 1) := by decide +kernel
theorem dX5_size_6 : decode cX5_size 6 = .ok (.getfield 9, 3) := by decide +kernel
theorem dX5_size_9 : decode cX5_size 9 = .ok (.arraylength, 1) := by decide +kernel
theorem dX5_size_10 : decode cX5_size 10 = .ok (.if_icmp .ge 21, 3) := by decide +kernel
theorem dX5_size_13 : decode cX5_size 13 = .ok (.iload_n 1, 1) := by decide +kernel
theorem dX5_size_14 : decode cX5_size 14 = .ok (.aload_n 0, 1) := by decide +kernel
theorem dX5_size_15 : decode cX5_size 15 = .ok (.getfield 9, 3) := by decide +kernel
theorem dX5_size_18 : decode cX5_size 18 = .ok (.iload_n 2, 1) := by decide +kernel
theorem dX5_size_19 : decode cX5_size 19 = .ok (.laload, 1) := by decide +kernel
theorem dX5_size_20 : decode cX5_size 20 = .ok (.invokestatic 13, 3) := by decide +kernel
theorem dX5_size_23 : decode cX5_size 23 = .ok (.iadd, 1) := by decide +kernel
theorem dX5_size_24 : decode cX5_size 24 = .ok (.istore_n 1, 1) := by decide +kernel
theorem dX5_size_25 : decode cX5_size 25 = .ok (.iinc 2 1, 3) := by decide +kernel
theorem dX5_size_28 : decode cX5_size 28 = .ok (.goto (-24), 3) := by decide +kernel
theorem dX5_size_31 : decode cX5_size 31 = .ok (.iload_n 1, 1) := by decide +kernel
theorem dX5_size_32 : decode cX5_size 32 = .ok (.ireturn, 1) := by decide +kernel
theorem dX6_init_0 : decode cX6_init 0 = .ok (.aload_n 0, 1) := by decide +kernel
theorem dX6_init_1 : decode cX6_init 1 = .ok (.invokespecial 3, 3) := by decide +kernel
theorem dX6_init_4 : decode cX6_init 4 = .ok (.aload_n 0, 1) := by decide +kernel
theorem dX6_init_5 : decode cX6_init 5 = .ok (.bipush 8, 2) := by decide +kernel
theorem dX6_init_7 : decode cX6_init 7 = .ok (.bipush 8, 2) := by decide +kernel
theorem dX6_init_9 : decode cX6_init 9 = .ok (.multianewarray 9 2, 4) := by decide +kernel
theorem dX6_init_13 : decode cX6_init 13 = .ok (.putfield 11, 3) := by decide +kernel
theorem dX6_init_16 : decode cX6_init 16 = .ok (.aload_n 0, 1) := by decide +kernel
theorem dX6_init_17 : decode cX6_init 17 = .ok (.bipush 8, 2) := by decide +kernel
theorem dX6_init_19 : decode cX6_init 19 = .ok (.bipush 8, 2) := by decide +kernel
theorem dX6_init_21 : decode cX6_init 21 = .ok (.multianewarray 9 2, 4) := by decide +kernel
theorem dX6_init_25 : decode cX6_init 25 = .ok (.putfield 16, 3) := by decide +kernel
theorem dX6_init_28 : decode cX6_init 28 = .ok (.aload_n 0, 1) := by decide +kernel
theorem dX6_init_29 : decode cX6_init 29 = .ok (.bipush 8, 2) := by decide +kernel
theorem dX6_init_31 : decode cX6_init 31 = .ok (.bipush 8, 2) := by decide +kernel
theorem dX6_init_33 : decode cX6_init 33 = .ok (.multianewarray 9 2, 4) := by decide +kernel
theorem dX6_init_37 : decode cX6_init 37 = .ok (.putfield 19, 3) := by decide +kernel
theorem dX6_init_40 : decode cX6_init 40 = .ok (.aload_n 0, 1) := by decide +kernel
theorem dX6_init_41 : decode cX6_init 41 = .ok (.bipush 8, 2) := by decide +kernel
theorem dX6_init_43 : decode cX6_init 43 = .ok (.bipush 8, 2) := by decide +kernel
theorem dX6_init_45 : decode cX6_init 45 = .ok (.multianewarray 9 2, 4) := by decide +kernel
theorem dX6_init_49 : decode cX6_init 49 = .ok (.putfield 22, 3) := by decide +kernel
theorem dX6_init_52 : decode cX6_init 52 = .ok (.aload_n 0, 1) := by decide +kernel
theorem dX6_init_53 : decode cX6_init 53 = .ok (.iconst 0, 1) := by decide +kernel
theorem dX6_init_54 : decode cX6_init 54 = .ok (.putfield 25, 3) := by decide +kernel
theorem dX6_init_57 : decode cX6_init 57 = .ok (.aload_n 0, 1) := by decide +kernel
theorem dX6_init_58 : decode cX6_init 58 = .ok (.aload_n 1, 1) := by decide +kernel
theorem dX6_init_59 : decode cX6_init 59 = .ok (.putfield 29, 3) := by decide +kernel
theorem dX6_init_62 : decode cX6_init 62 = .ok (.iconst 0, 1) := by decide +kernel
theorem dX6_init_63 : decode cX6_init 63 = .ok (.istore_n 2, 1) := by decide +kernel
theorem dX6_init_64 : decode cX6_init 64 = .ok (.iload_n 2, 1) := by decide +kernel
theorem dX6_init_65 : decode cX6_init 65 = .ok (.bipush 8, 2) := by decide +kernel
theorem dX6_init_67 : decode cX6_init 67 = .ok (.if_icmp .ge 59, 3) := by decide +kernel
theorem dX6_init_70 : decode cX6_init 70 = .ok (.iconst 0, 1) := by decide +kernel
theorem dX6_init_71 : decode cX6_init 71 = .ok (.istore_n 3, 1) := by decide +kernel
theorem dX6_init_72 : decode cX6_init 72 = .ok (.iload_n 3, 1) := by decide +kernel
theorem dX6_init_73 : decode cX6_init 73 = .ok (.bipush 8, 2) := by decide +kernel
theorem dX6_init_75 : decode cX6_init 75 = .ok (.if_icmp .ge 45, 3) := by decide +kernel
theorem dX6_init_78 : decode cX6_init 78 = .ok (.aload_n 0, 1) := by decide +kernel
theorem dX6_init_79 : decode cX6_init 79 = .ok (.getfield 11, 3) := by decide +kernel
theorem dX6_init_82 : decode cX6_init 82 = .ok (.iload_n 2, 1) := by decide +kernel
theorem dX6_init_83 : decode cX6_init 83 = .ok (.aaload, 1) := by decide +kernel
theorem dX6_init_84 : decode cX6_init 84 = .ok (.iload_n 3, 1) := by decide +kernel
theorem dX6_init_85 : decode cX6_init 85 = .ok (.iconst (-1), 1) := by decide +kernel
theorem dX6_init_86 : decode cX6_init 86 = .ok (.iastore, 1) := by decide +kernel
theorem dX6_init_87 : decode cX6_init 87 = .ok (.aload_n 0, 1) := by decide +kernel
theorem dX6_init_88 : decode cX6_init 88 = .ok (.getfield 16, 3) := by decide +kernel
theorem dX6_init_91 : decode cX6_init 91 = .ok (.iload_n 2, 1) := by decide +kernel
theorem dX6_init_92 : decode cX6_init 92 = .ok (.aaload, 1) := by decide +kernel
theorem dX6_init_93 : decode cX6_init 93 = .ok (.iload_n 3, 1) := by decide +kernel
theorem dX6_init_94 : decode cX6_init 94 = .ok (.iconst (-1), 1) := by decide +kernel
theorem dX6_init_95 : decode cX6_init 95 = .ok (.iastore, 1) := by decide +kernel
theorem dX6_init_96 : decode cX6_init 96 = .ok (.aload_n 0, 1) := by decide +kernel
theorem dX6_init_97 : decode cX6_init 97 = .ok (.getfield 19, 3) := by decide +kernel
theorem dX6_init_100 : decode cX6_init 100 = .ok (.iload_n 2, 1) := by decide +kernel
theorem dX6_init_101 : decode cX6_init 101 = .ok (.aaload, 1) := by decide +kernel
theorem dX6_init_102 : decode cX6_init 102 = .ok (.iload_n 3, 1) := by decide +kernel
theorem dX6_init_103 : decode cX6_init 103 = .ok (.iconst (-1), 1) := by decide +kernel
theorem dX6_init_104 : decode cX6_init 104 = .ok (.iastore, 1) := by decide +kernel
theorem dX6_init_105 : decode cX6_init 105 = .ok (.aload_n 0, 1) := by decide +kernel
theorem dX6_init_106 : decode cX6_init 106 = .ok (.getfield 22, 3) := by decide +kernel
theorem dX6_init_109 : decode cX6_init 109 = .ok (.iload_n 2, 1) := by decide +kernel
theorem dX6_init_110 : decode cX6_init 110 = .ok (.aaload, 1) := by decide +kernel
theorem dX6_init_111 : decode cX6_init 111 = .ok (.iload_n 3, 1) := by decide +kernel
theorem dX6_init_112 : decode cX6_init 112 = .ok (.iconst (-1), 1) := by decide +kernel
theorem dX6_init_113 : decode cX6_init 113 = .ok (.iastore, 1) := by decide +kernel
theorem dX6_init_114 : decode cX6_init 114 = .ok (.iinc 3 1, 3) := by decide +kernel
theorem dX6_init_117 : decode cX6_init 117 = .ok (.goto (-45), 3) := by decide +kernel
theorem dX6_init_120 : decode cX6_init 120 = .ok (.iinc 2 1, 3) := by decide +kernel
theorem dX6_init_123 : decode cX6_init 123 = .ok (.goto (-59), 3) := by decide +kernel
theorem dX6_init_126 : decode cX6_init 126 = .ok (.return_, 1) := by decide +kernel
theorem dX6_costOf_0 : decode cX6_costOf 0 = .ok (.aload_n 0, 1) := by decide +kernel
theorem dX6_costOf_1 : decode cX6_costOf 1 = .ok (.getfield 29, 3) := by decide +kernel
theorem dX6_costOf_4 : decode cX6_costOf 4 = .ok (.iload_n 1, 1) := by decide +kernel
theorem dX6_costOf_5 : decode cX6_costOf 5 = .ok (.invokevirtual 33, 3) := by decide +kernel
theorem dX6_costOf_8 : decode cX6_costOf 8 = .ok (.ifCond .eq 25, 3) := by decide +kernel
theorem dX6_costOf_11 : decode cX6_costOf 11 = .ok (.aload_n 0, 1) := by decide +kernel
theorem dX6_costOf_12 : decode cX6_costOf 12 = .ok (.getfield 29, 3) := by decide +kernel
theorem dX6_costOf_15 : decode cX6_costOf 15 = .ok (.iload_n 2, 1) := by decide +kernel
theorem dX6_costOf_16 : decode cX6_costOf 16 = .ok (.invokevirtual 33, 3) := by decide +kernel
theorem dX6_costOf_19 : decode cX6_costOf 19 = .ok (.ifCond .eq 14, 3) := by decide +kernel
theorem dX6_costOf_22 : decode cX6_costOf 22 = .ok (.aload_n 0, 1) := by decide +kernel
theorem dX6_costOf_23 : decode cX6_costOf 23 = .ok (.getfield 11, 3) := by decide +kernel
theorem dX6_costOf_26 : decode cX6_costOf 26 = .ok (.iload_n 1, 1) := by decide +kernel
theorem dX6_costOf_27 : decode cX6_costOf 27 = .ok (.aaload, 1) := by decide +kernel
theorem dX6_costOf_28 : decode cX6_costOf 28 = .ok (.iload_n 2, 1) := by decide +kernel
theorem dX6_costOf_29 : decode cX6_costOf 29 = .ok (.iaload, 1) := by decide +kernel
theorem dX6_costOf_30 : decode cX6_costOf 30 = .ok (.goto 4, 3) := by decide +kernel
theorem dX6_costOf_33 : decode cX6_costOf 33 = .ok (.iconst (-1), 1) := by decide +kernel
theorem dX6_costOf_34 : decode cX6_costOf 34 = .ok (.ireturn, 1) := by decide +kernel
theorem dX6_nextOf_0 : decode cX6_nextOf 0 = .ok (.aload_n 0, 1) := by decide +kernel
theorem dX6_nextOf_1 : decode cX6_nextOf 1 = .ok (.getfield 29, 3) := by decide +kernel
theorem dX6_nextOf_4 : decode cX6_nextOf 4 = .ok (.iload_n 1, 1) := by decide +kernel
theorem dX6_nextOf_5 : decode cX6_nextOf 5 = .ok (.invokevirtual 33, 3) := by decide +kernel
theorem dX6_nextOf_8 : decode cX6_nextOf 8 = .ok (.ifCond .eq 25, 3) := by decide +kernel
theorem dX6_nextOf_11 : decode cX6_nextOf 11 = .ok (.aload_n 0, 1) := by decide +kernel
theorem dX6_nextOf_12 : decode cX6_nextOf 12 = .ok (.getfield 29, 3) := by decide +kernel
theorem dX6_nextOf_15 : decode cX6_nextOf 15 = .ok (.iload_n 2, 1) := by decide +kernel
theorem dX6_nextOf_16 : decode cX6_nextOf 16 = .ok (.invokevirtual 33, 3) := by decide +kernel
theorem dX6_nextOf_19 : decode cX6_nextOf 19 = .ok (.ifCond .eq 14, 3) := by decide +kernel
theorem dX6_nextOf_22 : decode cX6_nextOf 22 = .ok (.aload_n 0, 1) := by decide +kernel
theorem dX6_nextOf_23 : decode cX6_nextOf 23 = .ok (.getfield 16, 3) := by decide +kernel
theorem dX6_nextOf_26 : decode cX6_nextOf 26 = .ok (.iload_n 1, 1) := by decide +kernel
theorem dX6_nextOf_27 : decode cX6_nextOf 27 = .ok (.aaload, 1) := by decide +kernel
theorem dX6_nextOf_28 : decode cX6_nextOf 28 = .ok (.iload_n 2, 1) := by decide +kernel
theorem dX6_nextOf_29 : decode cX6_nextOf 29 = .ok (.iaload, 1) := by decide +kernel
theorem dX6_nextOf_30 : decode cX6_nextOf 30 = .ok (.goto 4, 3) := by decide +kernel
theorem dX6_nextOf_33 : decode cX6_nextOf 33 = .ok (.iconst (-1), 1) := by decide +kernel
theorem dX6_nextOf_34 : decode cX6_nextOf 34 = .ok (.ireturn, 1) := by decide +kernel
theorem dX6_renew_0 : decode cX6_renew 0 = .ok (.iconst 0, 1) := by decide +kernel
theorem dX6_renew_1 : decode cX6_renew 1 = .ok (.istore_n 1, 1) := by decide +kernel
theorem dX6_renew_2 : decode cX6_renew 2 = .ok (.iload_n 1, 1) := by decide +kernel
theorem dX6_renew_3 : decode cX6_renew 3 = .ok (.aload_n 0, 1) := by decide +kernel
theorem dX6_renew_4 : decode cX6_renew 4 = .ok (.getfield 29, 3) := by decide +kernel
theorem dX6_renew_7 : decode cX6_renew 7 = .ok (.getfield 39, 3) := by decide +kernel
theorem dX6_renew_10 : decode cX6_renew 10 = .ok (.if_icmp .ge 39, 3) := by decide +kernel
theorem dX6_renew_13 : decode cX6_renew 13 = .ok (.iconst 0, 1) := by decide +kernel
theorem dX6_renew_14 : decode cX6_renew 14 = .ok (.istore_n 2, 1) := by decide +kernel
theorem dX6_renew_15 : decode cX6_renew 15 = .ok (.iload_n 2, 1) := by decide +kernel
theorem dX6_renew_16 : decode cX6_renew 16 = .ok (.aload_n 0, 1) := by decide +kernel
theorem dX6_renew_17 : decode cX6_renew 17 = .ok (.getfield 29, 3) := by decide +kernel
theorem dX6_renew_20 : decode cX6_renew 20 = .ok (.getfield 39, 3) := by decide +kernel
theorem dX6_renew_23 : decode cX6_renew 23 = .ok (.if_icmp .ge 20, 3) := by decide +kernel
theorem dX6_renew_26 : decode cX6_renew 26 = .ok (.iload_n 1, 1) := by decide +kernel
theorem dX6_renew_27 : decode cX6_renew 27 = .ok (.iload_n 2, 1) := by decide +kernel
theorem dX6_renew_28 : decode cX6_renew 28 = .ok (.if_icmp .eq 9, 3) := by decide +kernel
theorem dX6_renew_31 : decode cX6_renew 31 = .ok (.aload_n 0, 1) := by decide +kernel
theorem dX6_renew_32 : decode cX6_renew 32 = .ok (.iload_n 1, 1) := by decide +kernel
theorem dX6_renew_33 : decode cX6_renew 33 = .ok (.iload_n 2, 1) := by decide +kernel
theorem dX6_renew_34 : decode cX6_renew 34 = .ok (.invokevirtual 42, 3) := by decide +kernel
theorem dX6_renew_37 : decode cX6_renew 37 = .ok (.iinc 2 1, 3) := by decide +kernel
theorem dX6_renew_40 : decode cX6_renew 40 = .ok (.goto (-25), 3) := by decide +kernel
theorem dX6_renew_43 : decode cX6_renew 43 = .ok (.iinc 1 1, 3) := by decide +kernel
theorem dX6_renew_46 : decode cX6_renew 46 = .ok (.goto (-44), 3) := by decide +kernel
theorem dX6_renew_49 : decode cX6_renew 49 = .ok (.aload_n 0, 1) := by decide +kernel
theorem dX6_renew_50 : decode cX6_renew 50 = .ok (.getfield 11, 3) := by decide +kernel
theorem dX6_renew_53 : decode cX6_renew 53 = .ok (.astore_n 1, 1) := by decide +kernel
theorem dX6_renew_54 : decode cX6_renew 54 = .ok (.aload_n 0, 1) := by decide +kernel
theorem dX6_renew_55 : decode cX6_renew 55 = .ok (.getfield 16, 3) := by decide +kernel
theorem dX6_renew_58 : decode cX6_renew 58 = .ok (.astore_n 2, 1) := by decide +kernel
theorem dX6_renew_59 : decode cX6_renew 59 = .ok (.aload_n 0, 1) := by decide +kernel
theorem dX6_renew_60 : decode cX6_renew 60 = .ok (.aload_n 0, 1) := by decide +kernel
theorem dX6_renew_61 : decode cX6_renew 61 = .ok (.getfield 19, 3) := by decide +kernel
theorem dX6_renew_64 : decode cX6_renew 64 = .ok (.putfield 11, 3) := by decide +kernel
theorem dX6_renew_67 : decode cX6_renew 67 = .ok (.aload_n 0, 1) := by decide +kernel
theorem dX6_renew_68 : decode cX6_renew 68 = .ok (.aload_n 0, 1) := by decide +kernel
theorem dX6_renew_69 : decode cX6_renew 69 = .ok (.getfield 22, 3) := by decide +kernel
theorem dX6_renew_72 : decode cX6_renew 72 = .ok (.putfield 16, 3) := by decide +kernel
theorem dX6_renew_75 : decode cX6_renew 75 = .ok (.aload_n 0, 1) := by decide +kernel
theorem dX6_renew_76 : decode cX6_renew 76 = .ok (.aload_n 1, 1) := by decide +kernel
theorem dX6_renew_77 : decode cX6_renew 77 = .ok (.putfield 19, 3) := by decide +kernel
theorem dX6_renew_80 : decode cX6_renew 80 = .ok (.aload_n 0, 1) := by decide +kernel
theorem dX6_renew_81 : decode cX6_renew 81 = .ok (.aload_n 2, 1) := by decide +kernel
theorem dX6_renew_82 : decode cX6_renew 82 = .ok (.putfield 22, 3) := by decide +kernel
theorem dX6_renew_85 : decode cX6_renew 85 = .ok (.aload_n 0, 1) := by decide +kernel
theorem dX6_renew_86 : decode cX6_renew 86 = .ok (.dup, 1) := by decide +kernel
theorem dX6_renew_87 : decode cX6_renew 87 = .ok (.getfield 25, 3) := by decide +kernel
theorem dX6_renew_90 : decode cX6_renew 90 = .ok (.iconst 1, 1) := by decide +kernel
theorem dX6_renew_91 : decode cX6_renew 91 = .ok (.iadd, 1) := by decide +kernel
theorem dX6_renew_92 : decode cX6_renew 92 = .ok (.putfield 25, 3) := by decide +kernel
theorem dX6_renew_95 : decode cX6_renew 95 = .ok (.return_, 1) := by decide +kernel
theorem dX6_renewPair_0 : decode cX6_renewPair 0 = .ok (.iconst (-1), 1) := by decide +kernel
theorem dX6_renewPair_1 : decode cX6_renewPair 1 = .ok (.istore_n 3, 1) := by decide +kernel
theorem dX6_renewPair_2 : decode cX6_renewPair 2 = .ok (.iconst (-1), 1) := by decide +kernel
theorem dX6_renewPair_3 : decode cX6_renewPair 3 = .ok (.istore 4, 2) := by decide +kernel
theorem dX6_renewPair_5 : decode cX6_renewPair 5 = .ok (.aload_n 0, 1) := by decide +kernel
theorem dX6_renewPair_6 : decode cX6_renewPair 6 = .ok (.getfield 29, 3) := by decide +kernel
theorem dX6_renewPair_9 : decode cX6_renewPair 9 = .ok (.iload_n 1, 1) := by decide +kernel
theorem dX6_renewPair_10 : decode cX6_renewPair 10 = .ok (.iload_n 2, 1) := by decide +kernel
theorem dX6_renewPair_11 : decode cX6_renewPair 11 = .ok (.invokevirtual 46, 3) := by decide +kernel
theorem dX6_renewPair_14 : decode cX6_renewPair 14 = .ok (.ifCond .eq 11, 3) := by decide +kernel
theorem dX6_renewPair_17 : decode cX6_renewPair 17 = .ok (.iload_n 2, 1) := by decide +kernel
theorem dX6_renewPair_18 : decode cX6_renewPair 18 = .ok (.istore_n 3, 1) := by decide +kernel
theorem dX6_renewPair_19 : decode cX6_renewPair 19 = .ok (.iconst 1, 1) := by decide +kernel
theorem dX6_renewPair_20 : decode cX6_renewPair 20 = .ok (.istore 4, 2) := by decide +kernel
theorem dX6_renewPair_22 : decode cX6_renewPair 22 = .ok (.goto 49, 3) := by decide +kernel
theorem dX6_renewPair_25 : decode cX6_renewPair 25 = .ok (.aload_n 0, 1) := by decide +kernel
theorem dX6_renewPair_26 : decode cX6_renewPair 26 = .ok (.iload_n 1, 1) := by decide +kernel
theorem dX6_renewPair_27 : decode cX6_renewPair 27 = .ok (.iload_n 2, 1) := by decide +kernel
theorem dX6_renewPair_28 : decode cX6_renewPair 28 = .ok (.invokevirtual 50, 3) := by decide +kernel
theorem dX6_renewPair_31 : decode cX6_renewPair 31 = .ok (.istore 5, 2) := by decide +kernel
theorem dX6_renewPair_33 : decode cX6_renewPair 33 = .ok (.iload 5, 2) := by decide +kernel
theorem dX6_renewPair_35 : decode cX6_renewPair 35 = .ok (.iconst (-1), 1) := by decide +kernel
theorem dX6_renewPair_36 : decode cX6_renewPair 36 = .ok (.if_icmp .eq 35, 3) := by decide +kernel
theorem dX6_renewPair_39 : decode cX6_renewPair 39 = .ok (.aload_n 0, 1) := by decide +kernel
theorem dX6_renewPair_40 : decode cX6_renewPair 40 = .ok (.getfield 11, 3) := by decide +kernel
theorem dX6_renewPair_43 : decode cX6_renewPair 43 = .ok (.iload 5, 2) := by decide +kernel
theorem dX6_renewPair_45 : decode cX6_renewPair 45 = .ok (.aaload, 1) := by decide +kernel
theorem dX6_renewPair_46 : decode cX6_renewPair 46 = .ok (.iload_n 2, 1) := by decide +kernel
theorem dX6_renewPair_47 : decode cX6_renewPair 47 = .ok (.iaload, 1) := by decide +kernel
theorem dX6_renewPair_48 : decode cX6_renewPair 48 = .ok (.iconst 1, 1) := by decide +kernel
theorem dX6_renewPair_49 : decode cX6_renewPair 49 = .ok (.iadd, 1) := by decide +kernel
theorem dX6_renewPair_50 : decode cX6_renewPair 50 = .ok (.bipush 8, 2) := by decide +kernel
theorem dX6_renewPair_52 : decode cX6_renewPair 52 = .ok (.if_icmp .gt 19, 3) := by decide +kernel
theorem dX6_renewPair_55 : decode cX6_renewPair 55 = .ok (.iload 5, 2) := by decide +kernel
theorem dX6_renewPair_57 : decode cX6_renewPair 57 = .ok (.istore_n 3, 1) := by decide +kernel
theorem dX6_renewPair_58 : decode cX6_renewPair 58 = .ok (.aload_n 0, 1) := by decide +kernel
theorem dX6_renewPair_59 : decode cX6_renewPair 59 = .ok (.getfield 11, 3) := by decide +kernel
theorem dX6_renewPair_62 : decode cX6_renewPair 62 = .ok (.iload 5, 2) := by decide +kernel
theorem dX6_renewPair_64 : decode cX6_renewPair 64 = .ok (.aaload, 1) := by decide +kernel
theorem dX6_renewPair_65 : decode cX6_renewPair 65 = .ok (.iload_n 2, 1) := by decide +kernel
theorem dX6_renewPair_66 : decode cX6_renewPair 66 = .ok (.iaload, 1) := by decide +kernel
theorem dX6_renewPair_67 : decode cX6_renewPair 67 = .ok (.iconst 1, 1) := by decide +kernel
theorem dX6_renewPair_68 : decode cX6_renewPair 68 = .ok (.iadd, 1) := by decide +kernel
theorem dX6_renewPair_69 : decode cX6_renewPair 69 = .ok (.istore 4, 2) := by decide +kernel
theorem dX6_renewPair_71 : decode cX6_renewPair 71 = .ok (.aload_n 0, 1) := by decide +kernel
theorem dX6_renewPair_72 : decode cX6_renewPair 72 = .ok (.getfield 22, 3) := by decide +kernel
theorem dX6_renewPair_75 : decode cX6_renewPair 75 = .ok (.iload_n 1, 1) := by decide +kernel
theorem dX6_renewPair_76 : decode cX6_renewPair 76 = .ok (.aaload, 1) := by decide +kernel
theorem dX6_renewPair_77 : decode cX6_renewPair 77 = .ok (.iload_n 2, 1) := by decide +kernel
theorem dX6_renewPair_78 : decode cX6_renewPair 78 = .ok (.iload_n 3, 1) := by decide +kernel
theorem dX6_renewPair_79 : decode cX6_renewPair 79 = .ok (.iastore, 1) := by decide +kernel
theorem dX6_renewPair_80 : decode cX6_renewPair 80 = .ok (.aload_n 0, 1) := by decide +kernel
theorem dX6_renewPair_81 : decode cX6_renewPair 81 = .ok (.getfield 19, 3) := by decide +kernel
theorem dX6_renewPair_84 : decode cX6_renewPair 84 = .ok (.iload_n 1, 1) := by decide +kernel
theorem dX6_renewPair_85 : decode cX6_renewPair 85 = .ok (.aaload, 1) := by decide +kernel
theorem dX6_renewPair_86 : decode cX6_renewPair 86 = .ok (.iload_n 2, 1) := by decide +kernel
theorem dX6_renewPair_87 : decode cX6_renewPair 87 = .ok (.iload 4, 2) := by decide +kernel
theorem dX6_renewPair_89 : decode cX6_renewPair 89 = .ok (.iastore, 1) := by decide +kernel
theorem dX6_renewPair_90 : decode cX6_renewPair 90 = .ok (.return_, 1) := by decide +kernel
theorem dX6_cheapestNeighbour_0 : decode cX6_cheapestNeighbour 0 = .ok (.iconst (-1), 1) := by decide +kernel
theorem dX6_cheapestNeighbour_1 : decode cX6_cheapestNeighbour 1 = .ok (.istore_n 3, 1) := by decide +kernel
theorem dX6_cheapestNeighbour_2 : decode cX6_cheapestNeighbour 2 = .ok (.iconst 0, 1) := by decide +kernel
theorem dX6_cheapestNeighbour_3 : decode cX6_cheapestNeighbour 3 = .ok (.istore 4, 2) := by decide +kernel
theorem dX6_cheapestNeighbour_5 : decode cX6_cheapestNeighbour 5 = .ok (.iload 4, 2) := by decide +kernel
theorem dX6_cheapestNeighbour_7 : decode cX6_cheapestNeighbour 7 = .ok (.aload_n 0, 1) := by decide +kernel
theorem dX6_cheapestNeighbour_8 : decode cX6_cheapestNeighbour 8 = .ok (.getfield 29, 3) := by decide +kernel
theorem dX6_cheapestNeighbour_11 : decode cX6_cheapestNeighbour 11 = .ok (.getfield 39, 3) := by decide +kernel
theorem dX6_cheapestNeighbour_14 : decode cX6_cheapestNeighbour 14 = .ok (.if_icmp .ge 88, 3) := by decide +kernel
theorem dX6_cheapestNeighbour_17 : decode cX6_cheapestNeighbour 17 = .ok (.aload_n 0, 1) := by decide +kernel
theorem dX6_cheapestNeighbour_18 : decode cX6_cheapestNeighbour 18 = .ok (.getfield 16, 3) := by decide +kernel
theorem dX6_cheapestNeighbour_21 : decode cX6_cheapestNeighbour 21 = .ok (.iload 4, 2) := by decide +kernel
theorem dX6_cheapestNeighbour_23 : decode cX6_cheapestNeighbour 23 = .ok (.aaload, 1) := by decide +kernel
theorem dX6_cheapestNeighbour_24 : decode cX6_cheapestNeighbour 24 = .ok (.iload_n 2, 1) := by decide +kernel
theorem dX6_cheapestNeighbour_25 : decode cX6_cheapestNeighbour 25 = .ok (.iaload, 1) := by decide +kernel
theorem dX6_cheapestNeighbour_26 : decode cX6_cheapestNeighbour 26 = .ok (.iconst (-1), 1) := by decide +kernel
theorem dX6_cheapestNeighbour_27 : decode cX6_cheapestNeighbour 27 = .ok (.if_icmp .eq 33, 3) := by decide +kernel
theorem dX6_cheapestNeighbour_30 : decode cX6_cheapestNeighbour 30 = .ok (.aload_n 0, 1) := by decide +kernel
theorem dX6_cheapestNeighbour_31 : decode cX6_cheapestNeighbour 31 = .ok (.getfield 16, 3) := by decide +kernel
theorem dX6_cheapestNeighbour_34 : decode cX6_cheapestNeighbour 34 = .ok (.iload 4, 2) := by decide +kernel
theorem dX6_cheapestNeighbour_36 : decode cX6_cheapestNeighbour 36 = .ok (.aaload, 1) := by decide +kernel
theorem dX6_cheapestNeighbour_37 : decode cX6_cheapestNeighbour 37 = .ok (.iload_n 2, 1) := by decide +kernel
theorem dX6_cheapestNeighbour_38 : decode cX6_cheapestNeighbour 38 = .ok (.iaload, 1) := by decide +kernel
theorem dX6_cheapestNeighbour_39 : decode cX6_cheapestNeighbour 39 = .ok (.iload_n 1, 1) := by decide +kernel
theorem dX6_cheapestNeighbour_40 : decode cX6_cheapestNeighbour 40 = .ok (.if_icmp .eq 20, 3) := by decide +kernel
theorem dX6_cheapestNeighbour_43 : decode cX6_cheapestNeighbour 43 = .ok (.aload_n 0, 1) := by decide +kernel
theorem dX6_cheapestNeighbour_44 : decode cX6_cheapestNeighbour 44 = .ok (.getfield 29, 3) := by decide +kernel
theorem dX6_cheapestNeighbour_47 : decode cX6_cheapestNeighbour 47 = .ok (.iload 4, 2) := by decide +kernel
theorem dX6_cheapestNeighbour_49 : decode cX6_cheapestNeighbour 49 = .ok (.iload_n 1, 1) := by decide +kernel
theorem dX6_cheapestNeighbour_50 : decode cX6_cheapestNeighbour 50 = .ok (.invokevirtual 46, 3) := by decide +kernel
theorem dX6_cheapestNeighbour_53 : decode cX6_cheapestNeighbour 53 = .ok (.ifCond .eq 7, 3) := by decide +kernel
theorem dX6_cheapestNeighbour_56 : decode cX6_cheapestNeighbour 56 = .ok (.iconst 1, 1) := by decide +kernel
theorem dX6_cheapestNeighbour_57 : decode cX6_cheapestNeighbour 57 = .ok (.goto 4, 3) := by decide +kernel
theorem dX6_cheapestNeighbour_60 : decode cX6_cheapestNeighbour 60 = .ok (.iconst 0, 1) := by decide +kernel
theorem dX6_cheapestNeighbour_61 : decode cX6_cheapestNeighbour 61 = .ok (.istore 5, 2) := by decide +kernel
theorem dX6_cheapestNeighbour_63 : decode cX6_cheapestNeighbour 63 = .ok (.iload 5, 2) := by decide +kernel
theorem dX6_cheapestNeighbour_65 : decode cX6_cheapestNeighbour 65 = .ok (.ifCond .eq 31, 3) := by decide +kernel
theorem dX6_cheapestNeighbour_68 : decode cX6_cheapestNeighbour 68 = .ok (.iload_n 3, 1) := by decide +kernel
theorem dX6_cheapestNeighbour_69 : decode cX6_cheapestNeighbour 69 = .ok (.iconst (-1), 1) := by decide +kernel
theorem dX6_cheapestNeighbour_70 : decode cX6_cheapestNeighbour 70 = .ok (.if_icmp .eq 23, 3) := by decide +kernel
theorem dX6_cheapestNeighbour_73 : decode cX6_cheapestNeighbour 73 = .ok (.aload_n 0, 1) := by decide +kernel
theorem dX6_cheapestNeighbour_74 : decode cX6_cheapestNeighbour 74 = .ok (.getfield 11, 3) := by decide +kernel
theorem dX6_cheapestNeighbour_77 : decode cX6_cheapestNeighbour 77 = .ok (.iload 4, 2) := by decide +kernel
theorem dX6_cheapestNeighbour_79 : decode cX6_cheapestNeighbour 79 = .ok (.aaload, 1) := by decide +kernel
theorem dX6_cheapestNeighbour_80 : decode cX6_cheapestNeighbour 80 = .ok (.iload_n 2, 1) := by decide +kernel
theorem dX6_cheapestNeighbour_81 : decode cX6_cheapestNeighbour 81 = .ok (.iaload, 1) := by decide +kernel
theorem dX6_cheapestNeighbour_82 : decode cX6_cheapestNeighbour 82 = .ok (.aload_n 0, 1) := by decide +kernel
theorem dX6_cheapestNeighbour_83 : decode cX6_cheapestNeighbour 83 = .ok (.getfield 11, 3) := by decide +kernel
theorem dX6_cheapestNeighbour_86 : decode cX6_cheapestNeighbour 86 = .ok (.iload_n 3, 1) := by decide +kernel
theorem dX6_cheapestNeighbour_87 : decode cX6_cheapestNeighbour 87 = .ok (.aaload, 1) := by decide +kernel
theorem dX6_cheapestNeighbour_88 : decode cX6_cheapestNeighbour 88 = .ok (.iload_n 2, 1) := by decide +kernel
theorem dX6_cheapestNeighbour_89 : decode cX6_cheapestNeighbour 89 = .ok (.iaload, 1) := by decide +kernel
theorem dX6_cheapestNeighbour_90 : decode cX6_cheapestNeighbour 90 = .ok (.if_icmp .ge 6, 3) := by decide +kernel
theorem dX6_cheapestNeighbour_93 : decode cX6_cheapestNeighbour 93 = .ok (.iload 4, 2) := by decide +kernel
theorem dX6_cheapestNeighbour_95 : decode cX6_cheapestNeighbour 95 = .ok (.istore_n 3, 1) := by decide +kernel
theorem dX6_cheapestNeighbour_96 : decode cX6_cheapestNeighbour 96 = .ok (.iinc 4 1, 3) := by decide +kernel
theorem dX6_cheapestNeighbour_99 : decode cX6_cheapestNeighbour 99 = .ok (.goto (-94), 3) := by decide +kernel
theorem dX6_cheapestNeighbour_102 : decode cX6_cheapestNeighbour 102 = .ok (.iload_n 3, 1) := by decide +kernel
theorem dX6_cheapestNeighbour_103 : decode cX6_cheapestNeighbour 103 = .ok (.ireturn, 1) := by decide +kernel
theorem dX6_wayLength_0 : decode cX6_wayLength 0 = .ok (.aload_n 0, 1) := by decide +kernel
theorem dX6_wayLength_1 : decode cX6_wayLength 1 = .ok (.iload_n 1, 1) := by decide +kernel
theorem dX6_wayLength_2 : decode cX6_wayLength 2 = .ok (.iload_n 2, 1) := by decide +kernel
theorem dX6_wayLength_3 : decode cX6_wayLength 3 = .ok (.invokevirtual 54, 3) := by decide +kernel
theorem dX6_wayLength_6 : decode cX6_wayLength 6 = .ok (.istore_n 3, 1) := by decide +kernel
theorem dX6_wayLength_7 : decode cX6_wayLength 7 = .ok (.iload_n 3, 1) := by decide +kernel
theorem dX6_wayLength_8 : decode cX6_wayLength 8 = .ok (.bipush (-2), 2) := by decide +kernel
theorem dX6_wayLength_10 : decode cX6_wayLength 10 = .ok (.if_icmp .ne 7, 3) := by decide +kernel
theorem dX6_wayLength_13 : decode cX6_wayLength 13 = .ok (.iconst (-1), 1) := by decide +kernel
theorem dX6_wayLength_14 : decode cX6_wayLength 14 = .ok (.goto 4, 3) := by decide +kernel
theorem dX6_wayLength_17 : decode cX6_wayLength 17 = .ok (.iload_n 3, 1) := by decide +kernel
theorem dX6_wayLength_18 : decode cX6_wayLength 18 = .ok (.ireturn, 1) := by decide +kernel
theorem dX6_hasCircle_0 : decode cX6_hasCircle 0 = .ok (.aload_n 0, 1) := by decide +kernel
theorem dX6_hasCircle_1 : decode cX6_hasCircle 1 = .ok (.iload_n 1, 1) := by decide +kernel
theorem dX6_hasCircle_2 : decode cX6_hasCircle 2 = .ok (.iload_n 2, 1) := by decide +kernel
theorem dX6_hasCircle_3 : decode cX6_hasCircle 3 = .ok (.invokevirtual 54, 3) := by decide +kernel
theorem dX6_hasCircle_6 : decode cX6_hasCircle 6 = .ok (.bipush (-2), 2) := by decide +kernel
theorem dX6_hasCircle_8 : decode cX6_hasCircle 8 = .ok (.if_icmp .ne 7, 3) := by decide +kernel
theorem dX6_hasCircle_11 : decode cX6_hasCircle 11 = .ok (.iconst 1, 1) := by decide +kernel
theorem dX6_hasCircle_12 : decode cX6_hasCircle 12 = .ok (.goto 4, 3) := by decide +kernel
theorem dX6_hasCircle_15 : decode cX6_hasCircle 15 = .ok (.iconst 0, 1) := by decide +kernel
theorem dX6_hasCircle_16 : decode cX6_hasCircle 16 = .ok (.ireturn, 1) := by decide +kernel
theorem dX6_follow_0 : decode cX6_follow 0 = .ok (.iload_n 1, 1) := by decide +kernel
theorem dX6_follow_1 : decode cX6_follow 1 = .ok (.istore_n 3, 1) := by decide +kernel
theorem dX6_follow_2 : decode cX6_follow 2 = .ok (.iconst 1, 1) := by decide +kernel
theorem dX6_follow_3 : decode cX6_follow 3 = .ok (.istore 4, 2) := by decide +kernel
theorem dX6_follow_5 : decode cX6_follow 5 = .ok (.iload 4, 2) := by decide +kernel
theorem dX6_follow_7 : decode cX6_follow 7 = .ok (.bipush 8, 2) := by decide +kernel
theorem dX6_follow_9 : decode cX6_follow 9 = .ok (.if_icmp .gt 37, 3) := by decide +kernel
theorem dX6_follow_12 : decode cX6_follow 12 = .ok (.iload_n 3, 1) := by decide +kernel
theorem dX6_follow_13 : decode cX6_follow 13 = .ok (.iload_n 2, 1) := by decide +kernel
theorem dX6_follow_14 : decode cX6_follow 14 = .ok (.if_icmp .ne 6, 3) := by decide +kernel
theorem dX6_follow_17 : decode cX6_follow 17 = .ok (.iload 4, 2) := by decide +kernel
theorem dX6_follow_19 : decode cX6_follow 19 = .ok (.ireturn, 1) := by decide +kernel
theorem dX6_follow_20 : decode cX6_follow 20 = .ok (.aload_n 0, 1) := by decide +kernel
theorem dX6_follow_21 : decode cX6_follow 21 = .ok (.iload_n 3, 1) := by decide +kernel
theorem dX6_follow_22 : decode cX6_follow 22 = .ok (.iload_n 2, 1) := by decide +kernel
theorem dX6_follow_23 : decode cX6_follow 23 = .ok (.invokevirtual 57, 3) := by decide +kernel
theorem dX6_follow_26 : decode cX6_follow 26 = .ok (.istore_n 3, 1) := by decide +kernel
theorem dX6_follow_27 : decode cX6_follow 27 = .ok (.aload_n 0, 1) := by decide +kernel
theorem dX6_follow_28 : decode cX6_follow 28 = .ok (.getfield 29, 3) := by decide +kernel
theorem dX6_follow_31 : decode cX6_follow 31 = .ok (.iload_n 3, 1) := by decide +kernel
theorem dX6_follow_32 : decode cX6_follow 32 = .ok (.invokevirtual 33, 3) := by decide +kernel
theorem dX6_follow_35 : decode cX6_follow 35 = .ok (.ifCond .ne 5, 3) := by decide +kernel
theorem dX6_follow_38 : decode cX6_follow 38 = .ok (.iconst (-1), 1) := by decide +kernel
theorem dX6_follow_39 : decode cX6_follow 39 = .ok (.ireturn, 1) := by decide +kernel
theorem dX6_follow_40 : decode cX6_follow 40 = .ok (.iinc 4 1, 3) := by decide +kernel
theorem dX6_follow_43 : decode cX6_follow 43 = .ok (.goto (-38), 3) := by decide +kernel
theorem dX6_follow_46 : decode cX6_follow 46 = .ok (.bipush (-2), 2) := by decide +kernel
theorem dX6_follow_48 : decode cX6_follow 48 = .ok (.ireturn, 1) := by decide +kernel
theorem dX6_pairsWithRoute_0 : decode cX6_pairsWithRoute 0 = .ok (.iconst 0, 1) := by decide +kernel
theorem dX6_pairsWithRoute_1 : decode cX6_pairsWithRoute 1 = .ok (.istore_n 1, 1) := by decide +kernel
theorem dX6_pairsWithRoute_2 : decode cX6_pairsWithRoute 2 = .ok (.iconst 0, 1) := by decide +kernel
theorem dX6_pairsWithRoute_3 : decode cX6_pairsWithRoute 3 = .ok (.istore_n 2, 1) := by decide +kernel
theorem dX6_pairsWithRoute_4 : decode cX6_pairsWithRoute 4 = .ok (.iload_n 2, 1) := by decide +kernel
theorem dX6_pairsWithRoute_5 : decode cX6_pairsWithRoute 5 = .ok (.aload_n 0, 1) := by decide +kernel
theorem dX6_pairsWithRoute_6 : decode cX6_pairsWithRoute 6 = .ok (.getfield 29, 3) := by decide +kernel
theorem dX6_pairsWithRoute_9 : decode cX6_pairsWithRoute 9 = .ok (.getfield 39, 3) := by decide +kernel
theorem dX6_pairsWithRoute_12 : decode cX6_pairsWithRoute 12 = .ok (.if_icmp .ge 48, 3) := by decide +kernel
theorem dX6_pairsWithRoute_15 : decode cX6_pairsWithRoute 15 = .ok (.iconst 0, 1) := by decide +kernel
theorem dX6_pairsWithRoute_16 : decode cX6_pairsWithRoute 16 = .ok (.istore_n 3, 1) := by decide +kernel
theorem dX6_pairsWithRoute_17 : decode cX6_pairsWithRoute 17 = .ok (.iload_n 3, 1) := by decide +kernel
theorem dX6_pairsWithRoute_18 : decode cX6_pairsWithRoute 18 = .ok (.aload_n 0, 1) := by decide +kernel
theorem dX6_pairsWithRoute_19 : decode cX6_pairsWithRoute 19 = .ok (.getfield 29, 3) := by decide +kernel
theorem dX6_pairsWithRoute_22 : decode cX6_pairsWithRoute 22 = .ok (.getfield 39, 3) := by decide +kernel
theorem dX6_pairsWithRoute_25 : decode cX6_pairsWithRoute 25 = .ok (.if_icmp .ge 29, 3) := by decide +kernel
theorem dX6_pairsWithRoute_28 : decode cX6_pairsWithRoute 28 = .ok (.iload_n 2, 1) := by decide +kernel
theorem dX6_pairsWithRoute_29 : decode cX6_pairsWithRoute 29 = .ok (.iload_n 3, 1) := by decide +kernel
theorem dX6_pairsWithRoute_30 : decode cX6_pairsWithRoute 30 = .ok (.if_icmp .eq 18, 3) := by decide +kernel
theorem dX6_pairsWithRoute_33 : decode cX6_pairsWithRoute 33 = .ok (.aload_n 0, 1) := by decide +kernel
theorem dX6_pairsWithRoute_34 : decode cX6_pairsWithRoute 34 = .ok (.getfield 16, 3) := by decide +kernel
theorem dX6_pairsWithRoute_37 : decode cX6_pairsWithRoute 37 = .ok (.iload_n 2, 1) := by decide +kernel
theorem dX6_pairsWithRoute_38 : decode cX6_pairsWithRoute 38 = .ok (.aaload, 1) := by decide +kernel
theorem dX6_pairsWithRoute_39 : decode cX6_pairsWithRoute 39 = .ok (.iload_n 3, 1) := by decide +kernel
theorem dX6_pairsWithRoute_40 : decode cX6_pairsWithRoute 40 = .ok (.iaload, 1) := by decide +kernel
theorem dX6_pairsWithRoute_41 : decode cX6_pairsWithRoute 41 = .ok (.iconst (-1), 1) := by decide +kernel
theorem dX6_pairsWithRoute_42 : decode cX6_pairsWithRoute 42 = .ok (.if_icmp .eq 6, 3) := by decide +kernel
theorem dX6_pairsWithRoute_45 : decode cX6_pairsWithRoute 45 = .ok (.iinc 1 1, 3) := by decide +kernel
theorem dX6_pairsWithRoute_48 : decode cX6_pairsWithRoute 48 = .ok (.iinc 3 1, 3) := by decide +kernel
theorem dX6_pairsWithRoute_51 : decode cX6_pairsWithRoute 51 = .ok (.goto (-34), 3) := by decide +kernel
theorem dX6_pairsWithRoute_54 : decode cX6_pairsWithRoute 54 = .ok (.iinc 2 1, 3) := by decide +kernel
theorem dX6_pairsWithRoute_57 : decode cX6_pairsWithRoute 57 = .ok (.goto (-53), 3) := by decide +kernel
theorem dX6_pairsWithRoute_60 : decode cX6_pairsWithRoute 60 = .ok (.iload_n 1, 1) := by decide +kernel
theorem dX6_pairsWithRoute_61 : decode cX6_pairsWithRoute 61 = .ok (.ireturn, 1) := by decide +kernel
theorem dX6_pairsWithCircle_0 : decode cX6_pairsWithCircle 0 = .ok (.iconst 0, 1) := by decide +kernel
theorem dX6_pairsWithCircle_1 : decode cX6_pairsWithCircle 1 = .ok (.istore_n 1, 1) := by decide +kernel
theorem dX6_pairsWithCircle_2 : decode cX6_pairsWithCircle 2 = .ok (.iconst 0, 1) := by decide +kernel
theorem dX6_pairsWithCircle_3 : decode cX6_pairsWithCircle 3 = .ok (.istore_n 2, 1) := by decide +kernel
theorem dX6_pairsWithCircle_4 : decode cX6_pairsWithCircle 4 = .ok (.iload_n 2, 1) := by decide +kernel
theorem dX6_pairsWithCircle_5 : decode cX6_pairsWithCircle 5 = .ok (.aload_n 0, 1) := by decide +kernel
theorem dX6_pairsWithCircle_6 : decode cX6_pairsWithCircle 6 = .ok (.getfield 29, 3) := by decide +kernel
theorem dX6_pairsWithCircle_9 : decode cX6_pairsWithCircle 9 = .ok (.getfield 39, 3) := by decide +kernel
theorem dX6_pairsWithCircle_12 : decode cX6_pairsWithCircle 12 = .ok (.if_icmp .ge 45, 3) := by decide +kernel
theorem dX6_pairsWithCircle_15 : decode cX6_pairsWithCircle 15 = .ok (.iconst 0, 1) := by decide +kernel
theorem dX6_pairsWithCircle_16 : decode cX6_pairsWithCircle 16 = .ok (.istore_n 3, 1) := by decide +kernel
theorem dX6_pairsWithCircle_17 : decode cX6_pairsWithCircle 17 = .ok (.iload_n 3, 1) := by decide +kernel
theorem dX6_pairsWithCircle_18 : decode cX6_pairsWithCircle 18 = .ok (.aload_n 0, 1) := by decide +kernel
theorem dX6_pairsWithCircle_19 : decode cX6_pairsWithCircle 19 = .ok (.getfield 29, 3) := by decide +kernel
theorem dX6_pairsWithCircle_22 : decode cX6_pairsWithCircle 22 = .ok (.getfield 39, 3) := by decide +kernel
theorem dX6_pairsWithCircle_25 : decode cX6_pairsWithCircle 25 = .ok (.if_icmp .ge 26, 3) := by decide +kernel
theorem dX6_pairsWithCircle_28 : decode cX6_pairsWithCircle 28 = .ok (.iload_n 2, 1) := by decide +kernel
theorem dX6_pairsWithCircle_29 : decode cX6_pairsWithCircle 29 = .ok (.iload_n 3, 1) := by decide +kernel
theorem dX6_pairsWithCircle_30 : decode cX6_pairsWithCircle 30 = .ok (.if_icmp .eq 15, 3) := by decide +kernel
theorem dX6_pairsWithCircle_33 : decode cX6_pairsWithCircle 33 = .ok (.aload_n 0, 1) := by decide +kernel
theorem dX6_pairsWithCircle_34 : decode cX6_pairsWithCircle 34 = .ok (.iload_n 2, 1) := by decide +kernel
theorem dX6_pairsWithCircle_35 : decode cX6_pairsWithCircle 35 = .ok (.iload_n 3, 1) := by decide +kernel
theorem dX6_pairsWithCircle_36 : decode cX6_pairsWithCircle 36 = .ok (.invokevirtual 60, 3) := by decide +kernel
theorem dX6_pairsWithCircle_39 : decode cX6_pairsWithCircle 39 = .ok (.ifCond .eq 6, 3) := by decide +kernel
theorem dX6_pairsWithCircle_42 : decode cX6_pairsWithCircle 42 = .ok (.iinc 1 1, 3) := by decide +kernel
theorem dX6_pairsWithCircle_45 : decode cX6_pairsWithCircle 45 = .ok (.iinc 3 1, 3) := by decide +kernel
theorem dX6_pairsWithCircle_48 : decode cX6_pairsWithCircle 48 = .ok (.goto (-31), 3) := by decide +kernel
theorem dX6_pairsWithCircle_51 : decode cX6_pairsWithCircle 51 = .ok (.iinc 2 1, 3) := by decide +kernel
theorem dX6_pairsWithCircle_54 : decode cX6_pairsWithCircle 54 = .ok (.goto (-50), 3) := by decide +kernel
theorem dX6_pairsWithCircle_57 : decode cX6_pairsWithCircle 57 = .ok (.iload_n 1, 1) := by decide +kernel
theorem dX6_pairsWithCircle_58 : decode cX6_pairsWithCircle 58 = .ok (.ireturn, 1) := by decide +kernel
theorem dX6_areInOrder_0 : decode cX6_areInOrder 0 = .ok (.iconst 0, 1) := by decide +kernel
theorem dX6_areInOrder_1 : decode cX6_areInOrder 1 = .ok (.istore_n 2, 1) := by decide +kernel
theorem dX6_areInOrder_2 : decode cX6_areInOrder 2 = .ok (.iload_n 2, 1) := by decide +kernel
theorem dX6_areInOrder_3 : decode cX6_areInOrder 3 = .ok (.aload_n 0, 1) := by decide +kernel
theorem dX6_areInOrder_4 : decode cX6_areInOrder 4 = .ok (.getfield 29, 3) := by decide +kernel
theorem dX6_areInOrder_7 : decode cX6_areInOrder 7 = .ok (.getfield 39, 3) := by decide +kernel
theorem dX6_areInOrder_10 : decode cX6_areInOrder 10 = .ok (.if_icmp .ge 61, 3) := by decide +kernel
theorem dX6_areInOrder_13 : decode cX6_areInOrder 13 = .ok (.aload_n 0, 1) := by decide +kernel
theorem dX6_areInOrder_14 : decode cX6_areInOrder 14 = .ok (.getfield 16, 3) := by decide +kernel
theorem dX6_areInOrder_17 : decode cX6_areInOrder 17 = .ok (.iload_n 1, 1) := by decide +kernel
theorem dX6_areInOrder_18 : decode cX6_areInOrder 18 = .ok (.aaload, 1) := by decide +kernel
theorem dX6_areInOrder_19 : decode cX6_areInOrder 19 = .ok (.iload_n 2, 1) := by decide +kernel
theorem dX6_areInOrder_20 : decode cX6_areInOrder 20 = .ok (.iaload, 1) := by decide +kernel
theorem dX6_areInOrder_21 : decode cX6_areInOrder 21 = .ok (.istore_n 3, 1) := by decide +kernel
theorem dX6_areInOrder_22 : decode cX6_areInOrder 22 = .ok (.iload_n 3, 1) := by decide +kernel
theorem dX6_areInOrder_23 : decode cX6_areInOrder 23 = .ok (.iconst (-1), 1) := by decide +kernel
theorem dX6_areInOrder_24 : decode cX6_areInOrder 24 = .ok (.if_icmp .ne 6, 3) := by decide +kernel
theorem dX6_areInOrder_27 : decode cX6_areInOrder 27 = .ok (.goto 38, 3) := by decide +kernel
theorem dX6_areInOrder_30 : decode cX6_areInOrder 30 = .ok (.aload_n 0, 1) := by decide +kernel
theorem dX6_areInOrder_31 : decode cX6_areInOrder 31 = .ok (.getfield 29, 3) := by decide +kernel
theorem dX6_areInOrder_34 : decode cX6_areInOrder 34 = .ok (.iload_n 3, 1) := by decide +kernel
theorem dX6_areInOrder_35 : decode cX6_areInOrder 35 = .ok (.invokevirtual 33, 3) := by decide +kernel
theorem dX6_areInOrder_38 : decode cX6_areInOrder 38 = .ok (.ifCond .eq 25, 3) := by decide +kernel
theorem dX6_areInOrder_41 : decode cX6_areInOrder 41 = .ok (.iload_n 3, 1) := by decide +kernel
theorem dX6_areInOrder_42 : decode cX6_areInOrder 42 = .ok (.iload_n 1, 1) := by decide +kernel
theorem dX6_areInOrder_43 : decode cX6_areInOrder 43 = .ok (.if_icmp .eq 20, 3) := by decide +kernel
theorem dX6_areInOrder_46 : decode cX6_areInOrder 46 = .ok (.aload_n 0, 1) := by decide +kernel
theorem dX6_areInOrder_47 : decode cX6_areInOrder 47 = .ok (.getfield 11, 3) := by decide +kernel
theorem dX6_areInOrder_50 : decode cX6_areInOrder 50 = .ok (.iload_n 1, 1) := by decide +kernel
theorem dX6_areInOrder_51 : decode cX6_areInOrder 51 = .ok (.aaload, 1) := by decide +kernel
theorem dX6_areInOrder_52 : decode cX6_areInOrder 52 = .ok (.iload_n 2, 1) := by decide +kernel
theorem dX6_areInOrder_53 : decode cX6_areInOrder 53 = .ok (.iaload, 1) := by decide +kernel
theorem dX6_areInOrder_54 : decode cX6_areInOrder 54 = .ok (.iconst 1, 1) := by decide +kernel
theorem dX6_areInOrder_55 : decode cX6_areInOrder 55 = .ok (.bipush 8, 2) := by decide +kernel
theorem dX6_areInOrder_57 : decode cX6_areInOrder 57 = .ok (.invokestatic 63, 3) := by decide +kernel
theorem dX6_areInOrder_60 : decode cX6_areInOrder 60 = .ok (.ifCond .ne 5, 3) := by decide +kernel
theorem dX6_areInOrder_63 : decode cX6_areInOrder 63 = .ok (.iconst 0, 1) := by decide +kernel
theorem dX6_areInOrder_64 : decode cX6_areInOrder 64 = .ok (.ireturn, 1) := by decide +kernel
theorem dX6_areInOrder_65 : decode cX6_areInOrder 65 = .ok (.iinc 2 1, 3) := by decide +kernel
theorem dX6_areInOrder_68 : decode cX6_areInOrder 68 = .ok (.goto (-66), 3) := by decide +kernel
theorem dX6_areInOrder_71 : decode cX6_areInOrder 71 = .ok (.iconst 1, 1) := by decide +kernel
theorem dX6_areInOrder_72 : decode cX6_areInOrder 72 = .ok (.ireturn, 1) := by decide +kernel
theorem dX7_init_0 : decode cX7_init 0 = .ok (.aload_n 0, 1) := by decide +kernel
theorem dX7_init_1 : decode cX7_init 1 = .ok (.invokespecial 3, 3) := by decide +kernel
theorem dX7_init_4 : decode cX7_init 4 = .ok (.aload_n 0, 1) := by decide +kernel
theorem dX7_init_5 : decode cX7_init 5 = .ok (.iconst 0, 1) := by decide +kernel
theorem dX7_init_6 : decode cX7_init 6 = .ok (.putfield 9, 3) := by decide +kernel
theorem dX7_init_9 : decode cX7_init 9 = .ok (.aload_n 0, 1) := by decide +kernel
theorem dX7_init_10 : decode cX7_init 10 = .ok (.bipush 41, 2) := by decide +kernel
theorem dX7_init_12 : decode cX7_init 12 = .ok (.putfield 15, 3) := by decide +kernel
theorem dX7_init_15 : decode cX7_init 15 = .ok (.aload_n 0, 1) := by decide +kernel
theorem dX7_init_16 : decode cX7_init 16 = .ok (.iconst 0, 1) := by decide +kernel
theorem dX7_init_17 : decode cX7_init 17 = .ok (.putfield 18, 3) := by decide +kernel
theorem dX7_init_20 : decode cX7_init 20 = .ok (.aload_n 0, 1) := by decide +kernel
theorem dX7_init_21 : decode cX7_init 21 = .ok (.iconst 0, 1) := by decide +kernel
theorem dX7_init_22 : decode cX7_init 22 = .ok (.putfield 21, 3) := by decide +kernel
theorem dX7_init_25 : decode cX7_init 25 = .ok (.aload_n 0, 1) := by decide +kernel
theorem dX7_init_26 : decode cX7_init 26 = .ok (.iconst 0, 1) := by decide +kernel
theorem dX7_init_27 : decode cX7_init 27 = .ok (.putfield 24, 3) := by decide +kernel
theorem dX7_init_30 : decode cX7_init 30 = .ok (.aload_n 0, 1) := by decide +kernel
theorem dX7_init_31 : decode cX7_init 31 = .ok (.aload_n 1, 1) := by decide +kernel
theorem dX7_init_32 : decode cX7_init 32 = .ok (.putfield 27, 3) := by decide +kernel
theorem dX7_init_35 : decode cX7_init 35 = .ok (.aload_n 0, 1) := by decide +kernel
theorem dX7_init_36 : decode cX7_init 36 = .ok (.aload_n 2, 1) := by decide +kernel
theorem dX7_init_37 : decode cX7_init 37 = .ok (.putfield 31, 3) := by decide +kernel
theorem dX7_init_40 : decode cX7_init 40 = .ok (.return_, 1) := by decide +kernel
theorem dX7_senders_0 : decode cX7_senders 0 = .ok (.iconst 0, 1) := by decide +kernel
theorem dX7_senders_1 : decode cX7_senders 1 = .ok (.istore_n 1, 1) := by decide +kernel
theorem dX7_senders_2 : decode cX7_senders 2 = .ok (.iconst 0, 1) := by decide +kernel
theorem dX7_senders_3 : decode cX7_senders 3 = .ok (.istore_n 2, 1) := by decide +kernel
theorem dX7_senders_4 : decode cX7_senders 4 = .ok (.iload_n 2, 1) := by decide +kernel
theorem dX7_senders_5 : decode cX7_senders 5 = .ok (.aload_n 0, 1) := by decide +kernel
theorem dX7_senders_6 : decode cX7_senders 6 = .ok (.getfield 27, 3) := by decide +kernel
theorem dX7_senders_9 : decode cX7_senders 9 = .ok (.getfield 35, 3) := by decide +kernel
theorem dX7_senders_12 : decode cX7_senders 12 = .ok (.if_icmp .ge 30, 3) := by decide +kernel
theorem dX7_senders_15 : decode cX7_senders 15 = .ok (.aload_n 0, 1) := by decide +kernel
theorem dX7_senders_16 : decode cX7_senders 16 = .ok (.getfield 27, 3) := by decide +kernel
theorem dX7_senders_19 : decode cX7_senders 19 = .ok (.getfield 40, 3) := by decide +kernel
theorem dX7_senders_22 : decode cX7_senders 22 = .ok (.iload_n 2, 1) := by decide +kernel
theorem dX7_senders_23 : decode cX7_senders 23 = .ok (.aaload, 1) := by decide +kernel
theorem dX7_senders_24 : decode cX7_senders 24 = .ok (.invokevirtual 44, 3) := by decide +kernel
theorem dX7_senders_27 : decode cX7_senders 27 = .ok (.ifCond .eq 9, 3) := by decide +kernel
theorem dX7_senders_30 : decode cX7_senders 30 = .ok (.iload_n 1, 1) := by decide +kernel
theorem dX7_senders_31 : decode cX7_senders 31 = .ok (.iconst 1, 1) := by decide +kernel
theorem dX7_senders_32 : decode cX7_senders 32 = .ok (.iload_n 2, 1) := by decide +kernel
theorem dX7_senders_33 : decode cX7_senders 33 = .ok (.ishl, 1) := by decide +kernel
theorem dX7_senders_34 : decode cX7_senders 34 = .ok (.ior, 1) := by decide +kernel
theorem dX7_senders_35 : decode cX7_senders 35 = .ok (.istore_n 1, 1) := by decide +kernel
theorem dX7_senders_36 : decode cX7_senders 36 = .ok (.iinc 2 1, 3) := by decide +kernel
theorem dX7_senders_39 : decode cX7_senders 39 = .ok (.goto (-35), 3) := by decide +kernel
theorem dX7_senders_42 : decode cX7_senders 42 = .ok (.iload_n 1, 1) := by decide +kernel
theorem dX7_senders_43 : decode cX7_senders 43 = .ok (.ireturn, 1) := by decide +kernel
theorem dX7_goBy_0 : decode cX7_goBy 0 = .ok (.aload_n 0, 1) := by decide +kernel
theorem dX7_goBy_1 : decode cX7_goBy 1 = .ok (.dup, 1) := by decide +kernel
theorem dX7_goBy_2 : decode cX7_goBy 2 = .ok (.getfield 9, 3) := by decide +kernel
theorem dX7_goBy_5 : decode cX7_goBy 5 = .ok (.iconst 1, 1) := by decide +kernel
theorem dX7_goBy_6 : decode cX7_goBy 6 = .ok (.iadd, 1) := by decide +kernel
theorem dX7_goBy_7 : decode cX7_goBy 7 = .ok (.putfield 9, 3) := by decide +kernel
theorem dX7_goBy_10 : decode cX7_goBy 10 = .ok (.aload_n 0, 1) := by decide +kernel
theorem dX7_goBy_11 : decode cX7_goBy 11 = .ok (.invokevirtual 50, 3) := by decide +kernel
theorem dX7_goBy_14 : decode cX7_goBy 14 = .ok (.istore_n 1, 1) := by decide +kernel
theorem dX7_goBy_15 : decode cX7_goBy 15 = .ok (.iconst 0, 1) := by decide +kernel
theorem dX7_goBy_16 : decode cX7_goBy 16 = .ok (.istore_n 2, 1) := by decide +kernel
theorem dX7_goBy_17 : decode cX7_goBy 17 = .ok (.iload_n 2, 1) := by decide +kernel
theorem dX7_goBy_18 : decode cX7_goBy 18 = .ok (.aload_n 0, 1) := by decide +kernel
theorem dX7_goBy_19 : decode cX7_goBy 19 = .ok (.getfield 27, 3) := by decide +kernel
theorem dX7_goBy_22 : decode cX7_goBy 22 = .ok (.getfield 35, 3) := by decide +kernel
theorem dX7_goBy_25 : decode cX7_goBy 25 = .ok (.if_icmp .ge 34, 3) := by decide +kernel
theorem dX7_goBy_28 : decode cX7_goBy 28 = .ok (.iload_n 1, 1) := by decide +kernel
theorem dX7_goBy_29 : decode cX7_goBy 29 = .ok (.iload_n 2, 1) := by decide +kernel
theorem dX7_goBy_30 : decode cX7_goBy 30 = .ok (.invokestatic 54, 3) := by decide +kernel
theorem dX7_goBy_33 : decode cX7_goBy 33 = .ok (.ifCond .ne 20, 3) := by decide +kernel
theorem dX7_goBy_36 : decode cX7_goBy 36 = .ok (.aload_n 0, 1) := by decide +kernel
theorem dX7_goBy_37 : decode cX7_goBy 37 = .ok (.getfield 27, 3) := by decide +kernel
theorem dX7_goBy_40 : decode cX7_goBy 40 = .ok (.iload_n 2, 1) := by decide +kernel
theorem dX7_goBy_41 : decode cX7_goBy 41 = .ok (.iload_n 1, 1) := by decide +kernel
theorem dX7_goBy_42 : decode cX7_goBy 42 = .ok (.invokevirtual 58, 3) := by decide +kernel
theorem dX7_goBy_45 : decode cX7_goBy 45 = .ok (.ifCond .ne 8, 3) := by decide +kernel
theorem dX7_goBy_48 : decode cX7_goBy 48 = .ok (.aload_n 0, 1) := by decide +kernel
theorem dX7_goBy_49 : decode cX7_goBy 49 = .ok (.iload_n 2, 1) := by decide +kernel
theorem dX7_goBy_50 : decode cX7_goBy 50 = .ok (.invokevirtual 61, 3) := by decide +kernel
theorem dX7_goBy_53 : decode cX7_goBy 53 = .ok (.iinc 2 1, 3) := by decide +kernel
theorem dX7_goBy_56 : decode cX7_goBy 56 = .ok (.goto (-39), 3) := by decide +kernel
theorem dX7_goBy_59 : decode cX7_goBy 59 = .ok (.aload_n 0, 1) := by decide +kernel
theorem dX7_goBy_60 : decode cX7_goBy 60 = .ok (.invokevirtual 50, 3) := by decide +kernel
theorem dX7_goBy_63 : decode cX7_goBy 63 = .ok (.istore_n 2, 1) := by decide +kernel
theorem dX7_goBy_64 : decode cX7_goBy 64 = .ok (.iconst 0, 1) := by decide +kernel
theorem dX7_goBy_65 : decode cX7_goBy 65 = .ok (.istore_n 3, 1) := by decide +kernel
theorem dX7_goBy_66 : decode cX7_goBy 66 = .ok (.iload_n 3, 1) := by decide +kernel
theorem dX7_goBy_67 : decode cX7_goBy 67 = .ok (.aload_n 0, 1) := by decide +kernel
theorem dX7_goBy_68 : decode cX7_goBy 68 = .ok (.getfield 27, 3) := by decide +kernel
theorem dX7_goBy_71 : decode cX7_goBy 71 = .ok (.getfield 35, 3) := by decide +kernel
theorem dX7_goBy_74 : decode cX7_goBy 74 = .ok (.if_icmp .ge 23, 3) := by decide +kernel
theorem dX7_goBy_77 : decode cX7_goBy 77 = .ok (.iload_n 2, 1) := by decide +kernel
theorem dX7_goBy_78 : decode cX7_goBy 78 = .ok (.iload_n 3, 1) := by decide +kernel
theorem dX7_goBy_79 : decode cX7_goBy 79 = .ok (.invokestatic 54, 3) := by decide +kernel
theorem dX7_goBy_82 : decode cX7_goBy 82 = .ok (.ifCond .eq 9, 3) := by decide +kernel
theorem dX7_goBy_85 : decode cX7_goBy 85 = .ok (.aload_n 0, 1) := by decide +kernel
theorem dX7_goBy_86 : decode cX7_goBy 86 = .ok (.iload_n 3, 1) := by decide +kernel
theorem dX7_goBy_87 : decode cX7_goBy 87 = .ok (.iload_n 2, 1) := by decide +kernel
theorem dX7_goBy_88 : decode cX7_goBy 88 = .ok (.invokevirtual 65, 3) := by decide +kernel
theorem dX7_goBy_91 : decode cX7_goBy 91 = .ok (.iinc 3 1, 3) := by decide +kernel
theorem dX7_goBy_94 : decode cX7_goBy 94 = .ok (.goto (-28), 3) := by decide +kernel
theorem dX7_goBy_97 : decode cX7_goBy 97 = .ok (.iconst 0, 1) := by decide +kernel
theorem dX7_goBy_98 : decode cX7_goBy 98 = .ok (.istore_n 3, 1) := by decide +kernel
theorem dX7_goBy_99 : decode cX7_goBy 99 = .ok (.iload_n 3, 1) := by decide +kernel
theorem dX7_goBy_100 : decode cX7_goBy 100 = .ok (.aload_n 0, 1) := by decide +kernel
theorem dX7_goBy_101 : decode cX7_goBy 101 = .ok (.getfield 27, 3) := by decide +kernel
theorem dX7_goBy_104 : decode cX7_goBy 104 = .ok (.getfield 35, 3) := by decide +kernel
theorem dX7_goBy_107 : decode cX7_goBy 107 = .ok (.if_icmp .ge 37, 3) := by decide +kernel
theorem dX7_goBy_110 : decode cX7_goBy 110 = .ok (.iload_n 2, 1) := by decide +kernel
theorem dX7_goBy_111 : decode cX7_goBy 111 = .ok (.iload_n 3, 1) := by decide +kernel
theorem dX7_goBy_112 : decode cX7_goBy 112 = .ok (.invokestatic 54, 3) := by decide +kernel
theorem dX7_goBy_115 : decode cX7_goBy 115 = .ok (.ifCond .eq 23, 3) := by decide +kernel
theorem dX7_goBy_118 : decode cX7_goBy 118 = .ok (.aload_n 0, 1) := by decide +kernel
theorem dX7_goBy_119 : decode cX7_goBy 119 = .ok (.getfield 27, 3) := by decide +kernel
theorem dX7_goBy_122 : decode cX7_goBy 122 = .ok (.getfield 40, 3) := by decide +kernel
theorem dX7_goBy_125 : decode cX7_goBy 125 = .ok (.iload_n 3, 1) := by decide +kernel
theorem dX7_goBy_126 : decode cX7_goBy 126 = .ok (.aaload, 1) := by decide +kernel
theorem dX7_goBy_127 : decode cX7_goBy 127 = .ok (.invokevirtual 44, 3) := by decide +kernel
theorem dX7_goBy_130 : decode cX7_goBy 130 = .ok (.ifCond .ne 8, 3) := by decide +kernel
theorem dX7_goBy_133 : decode cX7_goBy 133 = .ok (.aload_n 0, 1) := by decide +kernel
theorem dX7_goBy_134 : decode cX7_goBy 134 = .ok (.iload_n 3, 1) := by decide +kernel
theorem dX7_goBy_135 : decode cX7_goBy 135 = .ok (.invokevirtual 69, 3) := by decide +kernel
theorem dX7_goBy_138 : decode cX7_goBy 138 = .ok (.iinc 3 1, 3) := by decide +kernel
theorem dX7_goBy_141 : decode cX7_goBy 141 = .ok (.goto (-42), 3) := by decide +kernel
theorem dX7_goBy_144 : decode cX7_goBy 144 = .ok (.return_, 1) := by decide +kernel
theorem dX7_takeTurn_0 : decode cX7_takeTurn 0 = .ok (.aload_n 0, 1) := by decide +kernel
theorem dX7_takeTurn_1 : decode cX7_takeTurn 1 = .ok (.getfield 27, 3) := by decide +kernel
theorem dX7_takeTurn_4 : decode cX7_takeTurn 4 = .ok (.getfield 40, 3) := by decide +kernel
theorem dX7_takeTurn_7 : decode cX7_takeTurn 7 = .ok (.iload_n 1, 1) := by decide +kernel
theorem dX7_takeTurn_8 : decode cX7_takeTurn 8 = .ok (.aaload, 1) := by decide +kernel
theorem dX7_takeTurn_9 : decode cX7_takeTurn 9 = .ok (.astore_n 2, 1) := by decide +kernel
theorem dX7_takeTurn_10 : decode cX7_takeTurn 10 = .ok (.aload_n 2, 1) := by decide +kernel
theorem dX7_takeTurn_11 : decode cX7_takeTurn 11 = .ok (.getfield 72, 3) := by decide +kernel
theorem dX7_takeTurn_14 : decode cX7_takeTurn 14 = .ok (.iconst 0, 1) := by decide +kernel
theorem dX7_takeTurn_15 : decode cX7_takeTurn 15 = .ok (.invokevirtual 76, 3) := by decide +kernel
theorem dX7_takeTurn_18 : decode cX7_takeTurn 18 = .ok (.astore_n 3, 1) := by decide +kernel
theorem dX7_takeTurn_19 : decode cX7_takeTurn 19 = .ok (.aload_n 3, 1) := by decide +kernel
theorem dX7_takeTurn_20 : decode cX7_takeTurn 20 = .ok (.ifnonnull 4, 3) := by decide +kernel
theorem dX7_takeTurn_23 : decode cX7_takeTurn 23 = .ok (.return_, 1) := by decide +kernel
theorem dX7_takeTurn_24 : decode cX7_takeTurn 24 = .ok (.aload_n 2, 1) := by decide +kernel
theorem dX7_takeTurn_25 : decode cX7_takeTurn 25 = .ok (.getfield 82, 3) := by decide +kernel
theorem dX7_takeTurn_28 : decode cX7_takeTurn 28 = .ok (.ifCond .le 14, 3) := by decide +kernel
theorem dX7_takeTurn_31 : decode cX7_takeTurn 31 = .ok (.aload_n 2, 1) := by decide +kernel
theorem dX7_takeTurn_32 : decode cX7_takeTurn 32 = .ok (.dup, 1) := by decide +kernel
theorem dX7_takeTurn_33 : decode cX7_takeTurn 33 = .ok (.getfield 82, 3) := by decide +kernel
theorem dX7_takeTurn_36 : decode cX7_takeTurn 36 = .ok (.iconst 1, 1) := by decide +kernel
theorem dX7_takeTurn_37 : decode cX7_takeTurn 37 = .ok (.isub, 1) := by decide +kernel
theorem dX7_takeTurn_38 : decode cX7_takeTurn 38 = .ok (.putfield 82, 3) := by decide +kernel
theorem dX7_takeTurn_41 : decode cX7_takeTurn 41 = .ok (.return_, 1) := by decide +kernel
theorem dX7_takeTurn_42 : decode cX7_takeTurn 42 = .ok (.aload_n 0, 1) := by decide +kernel
theorem dX7_takeTurn_43 : decode cX7_takeTurn 43 = .ok (.getfield 31, 3) := by decide +kernel
theorem dX7_takeTurn_46 : decode cX7_takeTurn 46 = .ok (.iload_n 1, 1) := by decide +kernel
theorem dX7_takeTurn_47 : decode cX7_takeTurn 47 = .ok (.aload_n 3, 1) := by decide +kernel
theorem dX7_takeTurn_48 : decode cX7_takeTurn 48 = .ok (.getfield 85, 3) := by decide +kernel
theorem dX7_takeTurn_51 : decode cX7_takeTurn 51 = .ok (.invokevirtual 90, 3) := by decide +kernel
theorem dX7_takeTurn_54 : decode cX7_takeTurn 54 = .ok (.istore 4, 2) := by decide +kernel
theorem dX7_takeTurn_56 : decode cX7_takeTurn 56 = .ok (.iload 4, 2) := by decide +kernel
theorem dX7_takeTurn_58 : decode cX7_takeTurn 58 = .ok (.iconst (-1), 1) := by decide +kernel
theorem dX7_takeTurn_59 : decode cX7_takeTurn 59 = .ok (.if_icmp .ne 11, 3) := by decide +kernel
theorem dX7_takeTurn_62 : decode cX7_takeTurn 62 = .ok (.aload_n 0, 1) := by decide +kernel
theorem dX7_takeTurn_63 : decode cX7_takeTurn 63 = .ok (.aload_n 2, 1) := by decide +kernel
theorem dX7_takeTurn_64 : decode cX7_takeTurn 64 = .ok (.invokevirtual 96, 3) := by decide +kernel
theorem dX7_takeTurn_67 : decode cX7_takeTurn 67 = .ok (.goto 13, 3) := by decide +kernel
theorem dX7_takeTurn_70 : decode cX7_takeTurn 70 = .ok (.aload_n 2, 1) := by decide +kernel
theorem dX7_takeTurn_71 : decode cX7_takeTurn 71 = .ok (.aload_n 3, 1) := by decide +kernel
theorem dX7_takeTurn_72 : decode cX7_takeTurn 72 = .ok (.getfield 100, 3) := by decide +kernel
theorem dX7_takeTurn_75 : decode cX7_takeTurn 75 = .ok (.iload 4, 2) := by decide +kernel
theorem dX7_takeTurn_77 : decode cX7_takeTurn 77 = .ok (.invokevirtual 103, 3) := by decide +kernel
theorem dX7_takeTurn_80 : decode cX7_takeTurn 80 = .ok (.return_, 1) := by decide +kernel
theorem dX7_goOn_0 : decode cX7_goOn 0 = .ok (.aload_n 0, 1) := by decide +kernel
theorem dX7_goOn_1 : decode cX7_goOn 1 = .ok (.getfield 27, 3) := by decide +kernel
theorem dX7_goOn_4 : decode cX7_goOn 4 = .ok (.getfield 40, 3) := by decide +kernel
theorem dX7_goOn_7 : decode cX7_goOn 7 = .ok (.iload_n 1, 1) := by decide +kernel
theorem dX7_goOn_8 : decode cX7_goOn 8 = .ok (.aaload, 1) := by decide +kernel
theorem dX7_goOn_9 : decode cX7_goOn 9 = .ok (.astore_n 3, 1) := by decide +kernel
theorem dX7_goOn_10 : decode cX7_goOn 10 = .ok (.aload_n 3, 1) := by decide +kernel
theorem dX7_goOn_11 : decode cX7_goOn 11 = .ok (.dup, 1) := by decide +kernel
theorem dX7_goOn_12 : decode cX7_goOn 12 = .ok (.getfield 106, 3) := by decide +kernel
theorem dX7_goOn_15 : decode cX7_goOn 15 = .ok (.iconst 1, 1) := by decide +kernel
theorem dX7_goOn_16 : decode cX7_goOn 16 = .ok (.iadd, 1) := by decide +kernel
theorem dX7_goOn_17 : decode cX7_goOn 17 = .ok (.putfield 106, 3) := by decide +kernel
theorem dX7_goOn_20 : decode cX7_goOn 20 = .ok (.aload_n 3, 1) := by decide +kernel
theorem dX7_goOn_21 : decode cX7_goOn 21 = .ok (.dup, 1) := by decide +kernel
theorem dX7_goOn_22 : decode cX7_goOn 22 = .ok (.getfield 109, 3) := by decide +kernel
theorem dX7_goOn_25 : decode cX7_goOn 25 = .ok (.iconst 1, 1) := by decide +kernel
theorem dX7_goOn_26 : decode cX7_goOn 26 = .ok (.isub, 1) := by decide +kernel
theorem dX7_goOn_27 : decode cX7_goOn 27 = .ok (.putfield 109, 3) := by decide +kernel
theorem dX7_goOn_30 : decode cX7_goOn 30 = .ok (.aload_n 0, 1) := by decide +kernel
theorem dX7_goOn_31 : decode cX7_goOn 31 = .ok (.getfield 27, 3) := by decide +kernel
theorem dX7_goOn_34 : decode cX7_goOn 34 = .ok (.aload_n 3, 1) := by decide +kernel
theorem dX7_goOn_35 : decode cX7_goOn 35 = .ok (.getfield 112, 3) := by decide +kernel
theorem dX7_goOn_38 : decode cX7_goOn 38 = .ok (.invokevirtual 115, 3) := by decide +kernel
theorem dX7_goOn_41 : decode cX7_goOn 41 = .ok (.ifCond .eq 19, 3) := by decide +kernel
theorem dX7_goOn_44 : decode cX7_goOn 44 = .ok (.aload_n 0, 1) := by decide +kernel
theorem dX7_goOn_45 : decode cX7_goOn 45 = .ok (.getfield 27, 3) := by decide +kernel
theorem dX7_goOn_48 : decode cX7_goOn 48 = .ok (.aload_n 3, 1) := by decide +kernel
theorem dX7_goOn_49 : decode cX7_goOn 49 = .ok (.getfield 112, 3) := by decide +kernel
theorem dX7_goOn_52 : decode cX7_goOn 52 = .ok (.iload_n 1, 1) := by decide +kernel
theorem dX7_goOn_53 : decode cX7_goOn 53 = .ok (.iload_n 2, 1) := by decide +kernel
theorem dX7_goOn_54 : decode cX7_goOn 54 = .ok (.invokevirtual 119, 3) := by decide +kernel
theorem dX7_goOn_57 : decode cX7_goOn 57 = .ok (.ifCond .ne 8, 3) := by decide +kernel
theorem dX7_goOn_60 : decode cX7_goOn 60 = .ok (.aload_n 3, 1) := by decide +kernel
theorem dX7_goOn_61 : decode cX7_goOn 61 = .ok (.iconst 0, 1) := by decide +kernel
theorem dX7_goOn_62 : decode cX7_goOn 62 = .ok (.putfield 123, 3) := by decide +kernel
theorem dX7_goOn_65 : decode cX7_goOn 65 = .ok (.return_, 1) := by decide +kernel
theorem dX7_end_0 : decode cX7_end 0 = .ok (.aload_n 0, 1) := by decide +kernel
theorem dX7_end_1 : decode cX7_end 1 = .ok (.getfield 27, 3) := by decide +kernel
theorem dX7_end_4 : decode cX7_end 4 = .ok (.getfield 40, 3) := by decide +kernel
theorem dX7_end_7 : decode cX7_end 7 = .ok (.iload_n 1, 1) := by decide +kernel
theorem dX7_end_8 : decode cX7_end 8 = .ok (.aaload, 1) := by decide +kernel
theorem dX7_end_9 : decode cX7_end 9 = .ok (.astore_n 2, 1) := by decide +kernel
theorem dX7_end_10 : decode cX7_end 10 = .ok (.aload_n 2, 1) := by decide +kernel
theorem dX7_end_11 : decode cX7_end 11 = .ok (.getfield 112, 3) := by decide +kernel
theorem dX7_end_14 : decode cX7_end 14 = .ok (.istore_n 3, 1) := by decide +kernel
theorem dX7_end_15 : decode cX7_end 15 = .ok (.aload_n 2, 1) := by decide +kernel
theorem dX7_end_16 : decode cX7_end 16 = .ok (.iconst (-1), 1) := by decide +kernel
theorem dX7_end_17 : decode cX7_end 17 = .ok (.putfield 112, 3) := by decide +kernel
theorem dX7_end_20 : decode cX7_end 20 = .ok (.aload_n 2, 1) := by decide +kernel
theorem dX7_end_21 : decode cX7_end 21 = .ok (.getfield 72, 3) := by decide +kernel
theorem dX7_end_24 : decode cX7_end 24 = .ok (.iconst 0, 1) := by decide +kernel
theorem dX7_end_25 : decode cX7_end 25 = .ok (.invokevirtual 76, 3) := by decide +kernel
theorem dX7_end_28 : decode cX7_end 28 = .ok (.astore 4, 2) := by decide +kernel
theorem dX7_end_30 : decode cX7_end 30 = .ok (.aload 4, 2) := by decide +kernel
theorem dX7_end_32 : decode cX7_end 32 = .ok (.ifnull 14, 3) := by decide +kernel
theorem dX7_end_35 : decode cX7_end 35 = .ok (.aload_n 0, 1) := by decide +kernel
theorem dX7_end_36 : decode cX7_end 36 = .ok (.getfield 27, 3) := by decide +kernel
theorem dX7_end_39 : decode cX7_end 39 = .ok (.iload_n 3, 1) := by decide +kernel
theorem dX7_end_40 : decode cX7_end 40 = .ok (.invokevirtual 115, 3) := by decide +kernel
theorem dX7_end_43 : decode cX7_end 43 = .ok (.ifCond .ne 4, 3) := by decide +kernel
theorem dX7_end_46 : decode cX7_end 46 = .ok (.return_, 1) := by decide +kernel
theorem dX7_end_47 : decode cX7_end 47 = .ok (.aload_n 2, 1) := by decide +kernel
theorem dX7_end_48 : decode cX7_end 48 = .ok (.getfield 123, 3) := by decide +kernel
theorem dX7_end_51 : decode cX7_end 51 = .ok (.ifCond .eq 10, 3) := by decide +kernel
theorem dX7_end_54 : decode cX7_end 54 = .ok (.aload_n 0, 1) := by decide +kernel
theorem dX7_end_55 : decode cX7_end 55 = .ok (.iload_n 3, 1) := by decide +kernel
theorem dX7_end_56 : decode cX7_end 56 = .ok (.aload 4, 2) := by decide +kernel
theorem dX7_end_58 : decode cX7_end 58 = .ok (.invokevirtual 127, 3) := by decide +kernel
theorem dX7_end_61 : decode cX7_end 61 = .ok (.aload_n 2, 1) := by decide +kernel
theorem dX7_end_62 : decode cX7_end 62 = .ok (.getfield 123, 3) := by decide +kernel
theorem dX7_end_65 : decode cX7_end 65 = .ok (.ifCond .eq 22, 3) := by decide +kernel
theorem dX7_end_68 : decode cX7_end 68 = .ok (.aload_n 0, 1) := by decide +kernel
theorem dX7_end_69 : decode cX7_end 69 = .ok (.getfield 27, 3) := by decide +kernel
theorem dX7_end_72 : decode cX7_end 72 = .ok (.iload_n 1, 1) := by decide +kernel
theorem dX7_end_73 : decode cX7_end 73 = .ok (.iload_n 3, 1) := by decide +kernel
theorem dX7_end_74 : decode cX7_end 74 = .ok (.invokevirtual 131, 3) := by decide +kernel
theorem dX7_end_77 : decode cX7_end 77 = .ok (.ifCond .eq 10, 3) := by decide +kernel
theorem dX7_end_80 : decode cX7_end 80 = .ok (.aload_n 2, 1) := by decide +kernel
theorem dX7_end_81 : decode cX7_end 81 = .ok (.invokevirtual 134, 3) := by decide +kernel
theorem dX7_end_84 : decode cX7_end 84 = .ok (.goto 8, 3) := by decide +kernel
theorem dX7_end_87 : decode cX7_end 87 = .ok (.aload_n 0, 1) := by decide +kernel
theorem dX7_end_88 : decode cX7_end 88 = .ok (.aload_n 2, 1) := by decide +kernel
theorem dX7_end_89 : decode cX7_end 89 = .ok (.invokevirtual 137, 3) := by decide +kernel
theorem dX7_end_92 : decode cX7_end 92 = .ok (.return_, 1) := by decide +kernel
theorem dX7_tryAgain_0 : decode cX7_tryAgain 0 = .ok (.aload_n 1, 1) := by decide +kernel
theorem dX7_tryAgain_1 : decode cX7_tryAgain 1 = .ok (.dup, 1) := by decide +kernel
theorem dX7_tryAgain_2 : decode cX7_tryAgain 2 = .ok (.getfield 140, 3) := by decide +kernel
theorem dX7_tryAgain_5 : decode cX7_tryAgain 5 = .ok (.iconst 1, 1) := by decide +kernel
theorem dX7_tryAgain_6 : decode cX7_tryAgain 6 = .ok (.iadd, 1) := by decide +kernel
theorem dX7_tryAgain_7 : decode cX7_tryAgain 7 = .ok (.putfield 140, 3) := by decide +kernel
theorem dX7_tryAgain_10 : decode cX7_tryAgain 10 = .ok (.aload_n 1, 1) := by decide +kernel
theorem dX7_tryAgain_11 : decode cX7_tryAgain 11 = .ok (.getfield 140, 3) := by decide +kernel
theorem dX7_tryAgain_14 : decode cX7_tryAgain 14 = .ok (.iconst 5, 1) := by decide +kernel
theorem dX7_tryAgain_15 : decode cX7_tryAgain 15 = .ok (.if_icmp .lt 11, 3) := by decide +kernel
theorem dX7_tryAgain_18 : decode cX7_tryAgain 18 = .ok (.aload_n 0, 1) := by decide +kernel
theorem dX7_tryAgain_19 : decode cX7_tryAgain 19 = .ok (.aload_n 1, 1) := by decide +kernel
theorem dX7_tryAgain_20 : decode cX7_tryAgain 20 = .ok (.invokevirtual 96, 3) := by decide +kernel
theorem dX7_tryAgain_23 : decode cX7_tryAgain 23 = .ok (.goto 30, 3) := by decide +kernel
theorem dX7_tryAgain_26 : decode cX7_tryAgain 26 = .ok (.aload_n 1, 1) := by decide +kernel
theorem dX7_tryAgain_27 : decode cX7_tryAgain 27 = .ok (.aload_n 1, 1) := by decide +kernel
theorem dX7_tryAgain_28 : decode cX7_tryAgain 28 = .ok (.getfield 143, 3) := by decide +kernel
theorem dX7_tryAgain_31 : decode cX7_tryAgain 31 = .ok (.ifCond .eq 7, 3) := by decide +kernel
theorem dX7_tryAgain_34 : decode cX7_tryAgain 34 = .ok (.iconst 0, 1) := by decide +kernel
theorem dX7_tryAgain_35 : decode cX7_tryAgain 35 = .ok (.goto 15, 3) := by decide +kernel
theorem dX7_tryAgain_38 : decode cX7_tryAgain 38 = .ok (.aload_n 0, 1) := by decide +kernel
theorem dX7_tryAgain_39 : decode cX7_tryAgain 39 = .ok (.iconst 1, 1) := by decide +kernel
theorem dX7_tryAgain_40 : decode cX7_tryAgain 40 = .ok (.aload_n 1, 1) := by decide +kernel
theorem dX7_tryAgain_41 : decode cX7_tryAgain 41 = .ok (.getfield 140, 3) := by decide +kernel
theorem dX7_tryAgain_44 : decode cX7_tryAgain 44 = .ok (.iconst 1, 1) := by decide +kernel
theorem dX7_tryAgain_45 : decode cX7_tryAgain 45 = .ok (.iadd, 1) := by decide +kernel
theorem dX7_tryAgain_46 : decode cX7_tryAgain 46 = .ok (.ishl, 1) := by decide +kernel
theorem dX7_tryAgain_47 : decode cX7_tryAgain 47 = .ok (.invokevirtual 146, 3) := by decide +kernel
theorem dX7_tryAgain_50 : decode cX7_tryAgain 50 = .ok (.invokevirtual 150, 3) := by decide +kernel
theorem dX7_tryAgain_53 : decode cX7_tryAgain 53 = .ok (.return_, 1) := by decide +kernel
theorem dX7_receive_0 : decode cX7_receive 0 = .ok (.aload_n 2, 1) := by decide +kernel
theorem dX7_receive_1 : decode cX7_receive 1 = .ok (.getfield 85, 3) := by decide +kernel
theorem dX7_receive_4 : decode cX7_receive 4 = .ok (.iload_n 1, 1) := by decide +kernel
theorem dX7_receive_5 : decode cX7_receive 5 = .ok (.if_icmp .ne 9, 3) := by decide +kernel
theorem dX7_receive_8 : decode cX7_receive 8 = .ok (.aload_n 0, 1) := by decide +kernel
theorem dX7_receive_9 : decode cX7_receive 9 = .ok (.aload_n 2, 1) := by decide +kernel
theorem dX7_receive_10 : decode cX7_receive 10 = .ok (.invokevirtual 153, 3) := by decide +kernel
theorem dX7_receive_13 : decode cX7_receive 13 = .ok (.return_, 1) := by decide +kernel
theorem dX7_receive_14 : decode cX7_receive 14 = .ok (.aload_n 2, 1) := by decide +kernel
theorem dX7_receive_15 : decode cX7_receive 15 = .ok (.getfield 157, 3) := by decide +kernel
theorem dX7_receive_18 : decode cX7_receive 18 = .ok (.bipush 7, 2) := by decide +kernel
theorem dX7_receive_20 : decode cX7_receive 20 = .ok (.if_icmp .ge 22, 3) := by decide +kernel
theorem dX7_receive_23 : decode cX7_receive 23 = .ok (.aload_n 0, 1) := by decide +kernel
theorem dX7_receive_24 : decode cX7_receive 24 = .ok (.getfield 27, 3) := by decide +kernel
theorem dX7_receive_27 : decode cX7_receive 27 = .ok (.getfield 40, 3) := by decide +kernel
theorem dX7_receive_30 : decode cX7_receive 30 = .ok (.iload_n 1, 1) := by decide +kernel
theorem dX7_receive_31 : decode cX7_receive 31 = .ok (.aaload, 1) := by decide +kernel
theorem dX7_receive_32 : decode cX7_receive 32 = .ok (.getfield 72, 3) := by decide +kernel
theorem dX7_receive_35 : decode cX7_receive 35 = .ok (.aload_n 2, 1) := by decide +kernel
theorem dX7_receive_36 : decode cX7_receive 36 = .ok (.invokestatic 160, 3) := by decide +kernel
theorem dX7_receive_39 : decode cX7_receive 39 = .ok (.ifCond .ne 13, 3) := by decide +kernel
theorem dX7_receive_42 : decode cX7_receive 42 = .ok (.aload_n 0, 1) := by decide +kernel
theorem dX7_receive_43 : decode cX7_receive 43 = .ok (.dup, 1) := by decide +kernel
theorem dX7_receive_44 : decode cX7_receive 44 = .ok (.getfield 24, 3) := by decide +kernel
theorem dX7_receive_47 : decode cX7_receive 47 = .ok (.iconst 1, 1) := by decide +kernel
theorem dX7_receive_48 : decode cX7_receive 48 = .ok (.iadd, 1) := by decide +kernel
theorem dX7_receive_49 : decode cX7_receive 49 = .ok (.putfield 24, 3) := by decide +kernel
theorem dX7_receive_52 : decode cX7_receive 52 = .ok (.return_, 1) := by decide +kernel
theorem dX7_pushCopy_0 : decode cX7_pushCopy 0 = .ok (.aload_n 0, 1) := by decide +kernel
theorem dX7_pushCopy_1 : decode cX7_pushCopy 1 = .ok (.aload_n 1, 1) := by decide +kernel
theorem dX7_pushCopy_2 : decode cX7_pushCopy 2 = .ok (.getfield 164, 3) := by decide +kernel
theorem dX7_pushCopy_5 : decode cX7_pushCopy 5 = .ok (.aload_n 1, 1) := by decide +kernel
theorem dX7_pushCopy_6 : decode cX7_pushCopy 6 = .ok (.getfield 85, 3) := by decide +kernel
theorem dX7_pushCopy_9 : decode cX7_pushCopy 9 = .ok (.aload_n 1, 1) := by decide +kernel
theorem dX7_pushCopy_10 : decode cX7_pushCopy 10 = .ok (.getfield 100, 3) := by decide +kernel
theorem dX7_pushCopy_13 : decode cX7_pushCopy 13 = .ok (.aload_n 1, 1) := by decide +kernel
theorem dX7_pushCopy_14 : decode cX7_pushCopy 14 = .ok (.getfield 167, 3) := by decide +kernel
theorem dX7_pushCopy_17 : decode cX7_pushCopy 17 = .ok (.aload_n 1, 1) := by decide +kernel
theorem dX7_pushCopy_18 : decode cX7_pushCopy 18 = .ok (.getfield 157, 3) := by decide +kernel
theorem dX7_pushCopy_21 : decode cX7_pushCopy 21 = .ok (.iconst 1, 1) := by decide +kernel
theorem dX7_pushCopy_22 : decode cX7_pushCopy 22 = .ok (.iadd, 1) := by decide +kernel
theorem dX7_pushCopy_23 : decode cX7_pushCopy 23 = .ok (.invokevirtual 170, 3) := by decide +kernel
theorem dX7_pushCopy_26 : decode cX7_pushCopy 26 = .ok (.ireturn, 1) := by decide +kernel
theorem dX7_arrive_0 : decode cX7_arrive 0 = .ok (.aload_n 0, 1) := by decide +kernel
theorem dX7_arrive_1 : decode cX7_arrive 1 = .ok (.getfield 27, 3) := by decide +kernel
theorem dX7_arrive_4 : decode cX7_arrive 4 = .ok (.aload_n 1, 1) := by decide +kernel
theorem dX7_arrive_5 : decode cX7_arrive 5 = .ok (.getfield 164, 3) := by decide +kernel
theorem dX7_arrive_8 : decode cX7_arrive 8 = .ok (.invokevirtual 115, 3) := by decide +kernel
theorem dX7_arrive_11 : decode cX7_arrive 11 = .ok (.ifCond .ne 4, 3) := by decide +kernel
theorem dX7_arrive_14 : decode cX7_arrive 14 = .ok (.return_, 1) := by decide +kernel
theorem dX7_arrive_15 : decode cX7_arrive 15 = .ok (.aload_n 0, 1) := by decide +kernel
theorem dX7_arrive_16 : decode cX7_arrive 16 = .ok (.getfield 27, 3) := by decide +kernel
theorem dX7_arrive_19 : decode cX7_arrive 19 = .ok (.getfield 40, 3) := by decide +kernel
theorem dX7_arrive_22 : decode cX7_arrive 22 = .ok (.aload_n 1, 1) := by decide +kernel
theorem dX7_arrive_23 : decode cX7_arrive 23 = .ok (.getfield 164, 3) := by decide +kernel
theorem dX7_arrive_26 : decode cX7_arrive 26 = .ok (.aaload, 1) := by decide +kernel
theorem dX7_arrive_27 : decode cX7_arrive 27 = .ok (.getfield 174, 3) := by decide +kernel
theorem dX7_arrive_30 : decode cX7_arrive 30 = .ok (.astore_n 2, 1) := by decide +kernel
theorem dX7_arrive_31 : decode cX7_arrive 31 = .ok (.aload_n 2, 1) := by decide +kernel
theorem dX7_arrive_32 : decode cX7_arrive 32 = .ok (.aload_n 1, 1) := by decide +kernel
theorem dX7_arrive_33 : decode cX7_arrive 33 = .ok (.getfield 167, 3) := by decide +kernel
theorem dX7_arrive_36 : decode cX7_arrive 36 = .ok (.invokevirtual 178, 3) := by decide +kernel
theorem dX7_arrive_39 : decode cX7_arrive 39 = .ok (.ifCond .eq 16, 3) := by decide +kernel
theorem dX7_arrive_42 : decode cX7_arrive 42 = .ok (.aload_n 0, 1) := by decide +kernel
theorem dX7_arrive_43 : decode cX7_arrive 43 = .ok (.dup, 1) := by decide +kernel
theorem dX7_arrive_44 : decode cX7_arrive 44 = .ok (.getfield 21, 3) := by decide +kernel
theorem dX7_arrive_47 : decode cX7_arrive 47 = .ok (.iconst 1, 1) := by decide +kernel
theorem dX7_arrive_48 : decode cX7_arrive 48 = .ok (.iadd, 1) := by decide +kernel
theorem dX7_arrive_49 : decode cX7_arrive 49 = .ok (.putfield 21, 3) := by decide +kernel
theorem dX7_arrive_52 : decode cX7_arrive 52 = .ok (.goto 21, 3) := by decide +kernel
theorem dX7_arrive_55 : decode cX7_arrive 55 = .ok (.aload_n 2, 1) := by decide +kernel
theorem dX7_arrive_56 : decode cX7_arrive 56 = .ok (.aload_n 1, 1) := by decide +kernel
theorem dX7_arrive_57 : decode cX7_arrive 57 = .ok (.getfield 167, 3) := by decide +kernel
theorem dX7_arrive_60 : decode cX7_arrive 60 = .ok (.invokevirtual 183, 3) := by decide +kernel
theorem dX7_arrive_63 : decode cX7_arrive 63 = .ok (.aload_n 0, 1) := by decide +kernel
theorem dX7_arrive_64 : decode cX7_arrive 64 = .ok (.dup, 1) := by decide +kernel
theorem dX7_arrive_65 : decode cX7_arrive 65 = .ok (.getfield 18, 3) := by decide +kernel
theorem dX7_arrive_68 : decode cX7_arrive 68 = .ok (.iconst 1, 1) := by decide +kernel
theorem dX7_arrive_69 : decode cX7_arrive 69 = .ok (.iadd, 1) := by decide +kernel
theorem dX7_arrive_70 : decode cX7_arrive 70 = .ok (.putfield 18, 3) := by decide +kernel
theorem dX7_arrive_73 : decode cX7_arrive 73 = .ok (.return_, 1) := by decide +kernel
theorem dX7_dropFirst_0 : decode cX7_dropFirst 0 = .ok (.aload_n 1, 1) := by decide +kernel
theorem dX7_dropFirst_1 : decode cX7_dropFirst 1 = .ok (.invokevirtual 134, 3) := by decide +kernel
theorem dX7_dropFirst_4 : decode cX7_dropFirst 4 = .ok (.aload_n 0, 1) := by decide +kernel
theorem dX7_dropFirst_5 : decode cX7_dropFirst 5 = .ok (.dup, 1) := by decide +kernel
theorem dX7_dropFirst_6 : decode cX7_dropFirst 6 = .ok (.getfield 24, 3) := by decide +kernel
theorem dX7_dropFirst_9 : decode cX7_dropFirst 9 = .ok (.iconst 1, 1) := by decide +kernel
theorem dX7_dropFirst_10 : decode cX7_dropFirst 10 = .ok (.iadd, 1) := by decide +kernel
theorem dX7_dropFirst_11 : decode cX7_dropFirst 11 = .ok (.putfield 24, 3) := by decide +kernel
theorem dX7_dropFirst_14 : decode cX7_dropFirst 14 = .ok (.return_, 1) := by decide +kernel
theorem dX7_draw_0 : decode cX7_draw 0 = .ok (.aload_n 0, 1) := by decide +kernel
theorem dX7_draw_1 : decode cX7_draw 1 = .ok (.bipush 109, 2) := by decide +kernel
theorem dX7_draw_3 : decode cX7_draw 3 = .ok (.aload_n 0, 1) := by decide +kernel
theorem dX7_draw_4 : decode cX7_draw 4 = .ok (.getfield 15, 3) := by decide +kernel
theorem dX7_draw_7 : decode cX7_draw 7 = .ok (.imul, 1) := by decide +kernel
theorem dX7_draw_8 : decode cX7_draw 8 = .ok (.bipush 57, 2) := by decide +kernel
theorem dX7_draw_10 : decode cX7_draw 10 = .ok (.iadd, 1) := by decide +kernel
theorem dX7_draw_11 : decode cX7_draw 11 = .ok (.sipush 512, 3) := by decide +kernel
theorem dX7_draw_14 : decode cX7_draw 14 = .ok (.irem, 1) := by decide +kernel
theorem dX7_draw_15 : decode cX7_draw 15 = .ok (.putfield 15, 3) := by decide +kernel
theorem dX7_draw_18 : decode cX7_draw 18 = .ok (.aload_n 0, 1) := by decide +kernel
theorem dX7_draw_19 : decode cX7_draw 19 = .ok (.getfield 15, 3) := by decide +kernel
theorem dX7_draw_22 : decode cX7_draw 22 = .ok (.iload_n 1, 1) := by decide +kernel
theorem dX7_draw_23 : decode cX7_draw 23 = .ok (.imul, 1) := by decide +kernel
theorem dX7_draw_24 : decode cX7_draw 24 = .ok (.sipush 512, 3) := by decide +kernel
theorem dX7_draw_27 : decode cX7_draw 27 = .ok (.idiv, 1) := by decide +kernel
theorem dX7_draw_28 : decode cX7_draw 28 = .ok (.ireturn, 1) := by decide +kernel
theorem dX8_init_0 : decode cX8_init 0 = .ok (.aload_n 0, 1) := by decide +kernel
theorem dX8_init_1 : decode cX8_init 1 = .ok (.invokespecial 1, 3) := by decide +kernel
theorem dX8_init_4 : decode cX8_init 4 = .ok (.aload_n 0, 1) := by decide +kernel
theorem dX8_init_5 : decode cX8_init 5 = .ok (.new 7, 3) := by decide +kernel
theorem dX8_init_8 : decode cX8_init 8 = .ok (.dup, 1) := by decide +kernel
theorem dX8_init_9 : decode cX8_init 9 = .ok (.invokespecial 9, 3) := by decide +kernel
theorem dX8_init_12 : decode cX8_init 12 = .ok (.putfield 10, 3) := by decide +kernel
theorem dX8_init_15 : decode cX8_init 15 = .ok (.aload_n 0, 1) := by decide +kernel
theorem dX8_init_16 : decode cX8_init 16 = .ok (.new 16, 3) := by decide +kernel
theorem dX8_init_19 : decode cX8_init 19 = .ok (.dup, 1) := by decide +kernel
theorem dX8_init_20 : decode cX8_init 20 = .ok (.aload_n 0, 1) := by decide +kernel
theorem dX8_init_21 : decode cX8_init 21 = .ok (.getfield 10, 3) := by decide +kernel
theorem dX8_init_24 : decode cX8_init 24 = .ok (.invokespecial 18, 3) := by decide +kernel
theorem dX8_init_27 : decode cX8_init 27 = .ok (.putfield 21, 3) := by decide +kernel
theorem dX8_init_30 : decode cX8_init 30 = .ok (.aload_n 0, 1) := by decide +kernel
theorem dX8_init_31 : decode cX8_init 31 = .ok (.new 25, 3) := by decide +kernel
theorem dX8_init_34 : decode cX8_init 34 = .ok (.dup, 1) := by decide +kernel
theorem dX8_init_35 : decode cX8_init 35 = .ok (.aload_n 0, 1) := by decide +kernel
theorem dX8_init_36 : decode cX8_init 36 = .ok (.getfield 10, 3) := by decide +kernel
theorem dX8_init_39 : decode cX8_init 39 = .ok (.aload_n 0, 1) := by decide +kernel
theorem dX8_init_40 : decode cX8_init 40 = .ok (.getfield 21, 3) := by decide +kernel
theorem dX8_init_43 : decode cX8_init 43 = .ok (.invokespecial 27, 3) := by decide +kernel
theorem dX8_init_46 : decode cX8_init 46 = .ok (.putfield 30, 3) := by decide +kernel
theorem dX8_init_49 : decode cX8_init 49 = .ok (.aload_n 0, 1) := by decide +kernel
theorem dX8_init_50 : decode cX8_init 50 = .ok (.new 34, 3) := by decide +kernel
theorem dX8_init_53 : decode cX8_init 53 = .ok (.dup, 1) := by decide +kernel
theorem dX8_init_54 : decode cX8_init 54 = .ok (.invokespecial 36, 3) := by decide +kernel
theorem dX8_init_57 : decode cX8_init 57 = .ok (.putfield 37, 3) := by decide +kernel
theorem dX8_init_60 : decode cX8_init 60 = .ok (.aload_n 0, 1) := by decide +kernel
theorem dX8_init_61 : decode cX8_init 61 = .ok (.iconst 0, 1) := by decide +kernel
theorem dX8_init_62 : decode cX8_init 62 = .ok (.putfield 41, 3) := by decide +kernel
theorem dX8_init_65 : decode cX8_init 65 = .ok (.return_, 1) := by decide +kernel
theorem dX8_node_0 : decode cX8_node 0 = .ok (.iload_n 1, 1) := by decide +kernel
theorem dX8_node_1 : decode cX8_node 1 = .ok (.iload_n 2, 1) := by decide +kernel
theorem dX8_node_2 : decode cX8_node 2 = .ok (.invokestatic 45, 3) := by decide +kernel
theorem dX8_node_5 : decode cX8_node 5 = .ok (.ifCond .eq 10, 3) := by decide +kernel
theorem dX8_node_8 : decode cX8_node 8 = .ok (.iload_n 3, 1) := by decide +kernel
theorem dX8_node_9 : decode cX8_node 9 = .ok (.invokestatic 49, 3) := by decide +kernel
theorem dX8_node_12 : decode cX8_node 12 = .ok (.ifCond .ne 13, 3) := by decide +kernel
theorem dX8_node_15 : decode cX8_node 15 = .ok (.new 53, 3) := by decide +kernel
theorem dX8_node_18 : decode cX8_node 18 = .ok (.dup, 1) := by decide +kernel
theorem dX8_node_19 : decode cX8_node 19 = .ok (.ldc 55, 2) := by decide +kernel
theorem dX8_node_21 : decode cX8_node 21 = .ok (.invokespecial 57, 3) := by decide +kernel
theorem dX8_node_24 : decode cX8_node 24 = .ok (.athrow, 1) := by decide +kernel
theorem dX8_node_25 : decode cX8_node 25 = .ok (.aload_n 0, 1) := by decide +kernel
theorem dX8_node_26 : decode cX8_node 26 = .ok (.getfield 10, 3) := by decide +kernel
theorem dX8_node_29 : decode cX8_node 29 = .ok (.getfield 60, 3) := by decide +kernel
theorem dX8_node_32 : decode cX8_node 32 = .ok (.bipush 8, 2) := by decide +kernel
theorem dX8_node_34 : decode cX8_node 34 = .ok (.if_icmp .lt 13, 3) := by decide +kernel
theorem dX8_node_37 : decode cX8_node 37 = .ok (.new 63, 3) := by decide +kernel
theorem dX8_node_40 : decode cX8_node 40 = .ok (.dup, 1) := by decide +kernel
theorem dX8_node_41 : decode cX8_node 41 = .ok (.ldc 65, 2) := by decide +kernel
theorem dX8_node_43 : decode cX8_node 43 = .ok (.invokespecial 67, 3) := by decide +kernel
theorem dX8_node_46 : decode cX8_node 46 = .ok (.athrow, 1) := by decide +kernel
theorem dX8_node_47 : decode cX8_node 47 = .ok (.aload_n 0, 1) := by decide +kernel
theorem dX8_node_48 : decode cX8_node 48 = .ok (.getfield 10, 3) := by decide +kernel
theorem dX8_node_51 : decode cX8_node 51 = .ok (.iload_n 1, 1) := by decide +kernel
theorem dX8_node_52 : decode cX8_node 52 = .ok (.iload_n 2, 1) := by decide +kernel
theorem dX8_node_53 : decode cX8_node 53 = .ok (.iload_n 3, 1) := by decide +kernel
theorem dX8_node_54 : decode cX8_node 54 = .ok (.iload 4, 2) := by decide +kernel
theorem dX8_node_56 : decode cX8_node 56 = .ok (.invokevirtual 68, 3) := by decide +kernel
theorem dX8_node_59 : decode cX8_node 59 = .ok (.ireturn, 1) := by decide +kernel
theorem dX8_move_0 : decode cX8_move 0 = .ok (.aload_n 0, 1) := by decide +kernel
theorem dX8_move_1 : decode cX8_move 1 = .ok (.iload_n 1, 1) := by decide +kernel
theorem dX8_move_2 : decode cX8_move 2 = .ok (.invokevirtual 72, 3) := by decide +kernel
theorem dX8_move_5 : decode cX8_move 5 = .ok (.iload_n 2, 1) := by decide +kernel
theorem dX8_move_6 : decode cX8_move 6 = .ok (.iload_n 3, 1) := by decide +kernel
theorem dX8_move_7 : decode cX8_move 7 = .ok (.invokestatic 45, 3) := by decide +kernel
theorem dX8_move_10 : decode cX8_move 10 = .ok (.ifCond .ne 13, 3) := by decide +kernel
theorem dX8_move_13 : decode cX8_move 13 = .ok (.new 53, 3) := by decide +kernel
theorem dX8_move_16 : decode cX8_move 16 = .ok (.dup, 1) := by decide +kernel
theorem dX8_move_17 : decode cX8_move 17 = .ok (.ldc 76, 2) := by decide +kernel
theorem dX8_move_19 : decode cX8_move 19 = .ok (.invokespecial 57, 3) := by decide +kernel
theorem dX8_move_22 : decode cX8_move 22 = .ok (.athrow, 1) := by decide +kernel
theorem dX8_move_23 : decode cX8_move 23 = .ok (.aload_n 0, 1) := by decide +kernel
theorem dX8_move_24 : decode cX8_move 24 = .ok (.iload_n 1, 1) := by decide +kernel
theorem dX8_move_25 : decode cX8_move 25 = .ok (.invokevirtual 78, 3) := by decide +kernel
theorem dX8_move_28 : decode cX8_move 28 = .ok (.aload_n 0, 1) := by decide +kernel
theorem dX8_move_29 : decode cX8_move 29 = .ok (.getfield 10, 3) := by decide +kernel
theorem dX8_move_32 : decode cX8_move 32 = .ok (.iload_n 1, 1) := by decide +kernel
theorem dX8_move_33 : decode cX8_move 33 = .ok (.iload_n 2, 1) := by decide +kernel
theorem dX8_move_34 : decode cX8_move 34 = .ok (.iload_n 3, 1) := by decide +kernel
theorem dX8_move_35 : decode cX8_move 35 = .ok (.invokevirtual 81, 3) := by decide +kernel
theorem dX8_move_38 : decode cX8_move 38 = .ok (.aload_n 0, 1) := by decide +kernel
theorem dX8_move_39 : decode cX8_move 39 = .ok (.getfield 10, 3) := by decide +kernel
theorem dX8_move_42 : decode cX8_move 42 = .ok (.iload_n 1, 1) := by decide +kernel
theorem dX8_move_43 : decode cX8_move 43 = .ok (.invokevirtual 85, 3) := by decide +kernel
theorem dX8_move_46 : decode cX8_move 46 = .ok (.invokestatic 89, 3) := by decide +kernel
theorem dX8_move_49 : decode cX8_move 49 = .ok (.ireturn, 1) := by decide +kernel
theorem dX8_tune_0 : decode cX8_tune 0 = .ok (.aload_n 0, 1) := by decide +kernel
theorem dX8_tune_1 : decode cX8_tune 1 = .ok (.iload_n 1, 1) := by decide +kernel
theorem dX8_tune_2 : decode cX8_tune 2 = .ok (.invokevirtual 72, 3) := by decide +kernel
theorem dX8_tune_5 : decode cX8_tune 5 = .ok (.iload_n 2, 1) := by decide +kernel
theorem dX8_tune_6 : decode cX8_tune 6 = .ok (.invokestatic 49, 3) := by decide +kernel
theorem dX8_tune_9 : decode cX8_tune 9 = .ok (.ifCond .ne 13, 3) := by decide +kernel
theorem dX8_tune_12 : decode cX8_tune 12 = .ok (.new 53, 3) := by decide +kernel
theorem dX8_tune_15 : decode cX8_tune 15 = .ok (.dup, 1) := by decide +kernel
theorem dX8_tune_16 : decode cX8_tune 16 = .ok (.ldc 94, 2) := by decide +kernel
theorem dX8_tune_18 : decode cX8_tune 18 = .ok (.invokespecial 57, 3) := by decide +kernel
theorem dX8_tune_21 : decode cX8_tune 21 = .ok (.athrow, 1) := by decide +kernel
theorem dX8_tune_22 : decode cX8_tune 22 = .ok (.aload_n 0, 1) := by decide +kernel
theorem dX8_tune_23 : decode cX8_tune 23 = .ok (.iload_n 1, 1) := by decide +kernel
theorem dX8_tune_24 : decode cX8_tune 24 = .ok (.invokevirtual 78, 3) := by decide +kernel
theorem dX8_tune_27 : decode cX8_tune 27 = .ok (.aload_n 0, 1) := by decide +kernel
theorem dX8_tune_28 : decode cX8_tune 28 = .ok (.getfield 10, 3) := by decide +kernel
theorem dX8_tune_31 : decode cX8_tune 31 = .ok (.getfield 96, 3) := by decide +kernel
theorem dX8_tune_34 : decode cX8_tune 34 = .ok (.iload_n 1, 1) := by decide +kernel
theorem dX8_tune_35 : decode cX8_tune 35 = .ok (.aaload, 1) := by decide +kernel
theorem dX8_tune_36 : decode cX8_tune 36 = .ok (.getfield 100, 3) := by decide +kernel
theorem dX8_tune_39 : decode cX8_tune 39 = .ok (.istore 4, 2) := by decide +kernel
theorem dX8_tune_41 : decode cX8_tune 41 = .ok (.aload_n 0, 1) := by decide +kernel
theorem dX8_tune_42 : decode cX8_tune 42 = .ok (.getfield 10, 3) := by decide +kernel
theorem dX8_tune_45 : decode cX8_tune 45 = .ok (.iload_n 1, 1) := by decide +kernel
theorem dX8_tune_46 : decode cX8_tune 46 = .ok (.iload_n 2, 1) := by decide +kernel
theorem dX8_tune_47 : decode cX8_tune 47 = .ok (.iload_n 3, 1) := by decide +kernel
theorem dX8_tune_48 : decode cX8_tune 48 = .ok (.invokevirtual 105, 3) := by decide +kernel
theorem dX8_tune_51 : decode cX8_tune 51 = .ok (.iload 4, 2) := by decide +kernel
theorem dX8_tune_53 : decode cX8_tune 53 = .ok (.ireturn, 1) := by decide +kernel
theorem dX8_send_0 : decode cX8_send 0 = .ok (.aload_n 0, 1) := by decide +kernel
theorem dX8_send_1 : decode cX8_send 1 = .ok (.iload_n 1, 1) := by decide +kernel
theorem dX8_send_2 : decode cX8_send 2 = .ok (.invokevirtual 72, 3) := by decide +kernel
theorem dX8_send_5 : decode cX8_send 5 = .ok (.aload_n 0, 1) := by decide +kernel
theorem dX8_send_6 : decode cX8_send 6 = .ok (.iload_n 2, 1) := by decide +kernel
theorem dX8_send_7 : decode cX8_send 7 = .ok (.invokevirtual 72, 3) := by decide +kernel
theorem dX8_send_10 : decode cX8_send 10 = .ok (.iload_n 1, 1) := by decide +kernel
theorem dX8_send_11 : decode cX8_send 11 = .ok (.iload_n 2, 1) := by decide +kernel
theorem dX8_send_12 : decode cX8_send 12 = .ok (.if_icmp .eq 12, 3) := by decide +kernel
theorem dX8_send_15 : decode cX8_send 15 = .ok (.iload_n 3, 1) := by decide +kernel
theorem dX8_send_16 : decode cX8_send 16 = .ok (.iconst 1, 1) := by decide +kernel
theorem dX8_send_17 : decode cX8_send 17 = .ok (.iconst 3, 1) := by decide +kernel
theorem dX8_send_18 : decode cX8_send 18 = .ok (.invokestatic 109, 3) := by decide +kernel
theorem dX8_send_21 : decode cX8_send 21 = .ok (.ifCond .ne 13, 3) := by decide +kernel
theorem dX8_send_24 : decode cX8_send 24 = .ok (.new 53, 3) := by decide +kernel
theorem dX8_send_27 : decode cX8_send 27 = .ok (.dup, 1) := by decide +kernel
theorem dX8_send_28 : decode cX8_send 28 = .ok (.ldc 113, 2) := by decide +kernel
theorem dX8_send_30 : decode cX8_send 30 = .ok (.invokespecial 57, 3) := by decide +kernel
theorem dX8_send_33 : decode cX8_send 33 = .ok (.athrow, 1) := by decide +kernel
theorem dX8_send_34 : decode cX8_send 34 = .ok (.aload_n 0, 1) := by decide +kernel
theorem dX8_send_35 : decode cX8_send 35 = .ok (.getfield 10, 3) := by decide +kernel
theorem dX8_send_38 : decode cX8_send 38 = .ok (.getfield 96, 3) := by decide +kernel
theorem dX8_send_41 : decode cX8_send 41 = .ok (.iload_n 1, 1) := by decide +kernel
theorem dX8_send_42 : decode cX8_send 42 = .ok (.aaload, 1) := by decide +kernel
theorem dX8_send_43 : decode cX8_send 43 = .ok (.astore 4, 2) := by decide +kernel
theorem dX8_send_45 : decode cX8_send 45 = .ok (.aload 4, 2) := by decide +kernel
theorem dX8_send_47 : decode cX8_send 47 = .ok (.getfield 115, 3) := by decide +kernel
theorem dX8_send_50 : decode cX8_send 50 = .ok (.istore 5, 2) := by decide +kernel
theorem dX8_send_52 : decode cX8_send 52 = .ok (.aload 4, 2) := by decide +kernel
theorem dX8_send_54 : decode cX8_send 54 = .ok (.getfield 118, 3) := by decide +kernel
theorem dX8_send_57 : decode cX8_send 57 = .ok (.iload_n 1, 1) := by decide +kernel
theorem dX8_send_58 : decode cX8_send 58 = .ok (.iload_n 2, 1) := by decide +kernel
theorem dX8_send_59 : decode cX8_send 59 = .ok (.iload_n 3, 1) := by decide +kernel
theorem dX8_send_60 : decode cX8_send 60 = .ok (.iload 5, 2) := by decide +kernel
theorem dX8_send_62 : decode cX8_send 62 = .ok (.iconst 0, 1) := by decide +kernel
theorem dX8_send_63 : decode cX8_send 63 = .ok (.invokevirtual 122, 3) := by decide +kernel
theorem dX8_send_66 : decode cX8_send 66 = .ok (.ifCond .ne 13, 3) := by decide +kernel
theorem dX8_send_69 : decode cX8_send 69 = .ok (.new 63, 3) := by decide +kernel
theorem dX8_send_72 : decode cX8_send 72 = .ok (.dup, 1) := by decide +kernel
theorem dX8_send_73 : decode cX8_send 73 = .ok (.ldc 127, 2) := by decide +kernel
theorem dX8_send_75 : decode cX8_send 75 = .ok (.invokespecial 67, 3) := by decide +kernel
theorem dX8_send_78 : decode cX8_send 78 = .ok (.athrow, 1) := by decide +kernel
theorem dX8_send_79 : decode cX8_send 79 = .ok (.aload 4, 2) := by decide +kernel
theorem dX8_send_81 : decode cX8_send 81 = .ok (.dup, 1) := by decide +kernel
theorem dX8_send_82 : decode cX8_send 82 = .ok (.getfield 115, 3) := by decide +kernel
theorem dX8_send_85 : decode cX8_send 85 = .ok (.iconst 1, 1) := by decide +kernel
theorem dX8_send_86 : decode cX8_send 86 = .ok (.iadd, 1) := by decide +kernel
theorem dX8_send_87 : decode cX8_send 87 = .ok (.putfield 115, 3) := by decide +kernel
theorem dX8_send_90 : decode cX8_send 90 = .ok (.iload 5, 2) := by decide +kernel
theorem dX8_send_92 : decode cX8_send 92 = .ok (.ireturn, 1) := by decide +kernel
theorem dX8_pass_0 : decode cX8_pass 0 = .ok (.iload_n 1, 1) := by decide +kernel
theorem dX8_pass_1 : decode cX8_pass 1 = .ok (.iconst 1, 1) := by decide +kernel
theorem dX8_pass_2 : decode cX8_pass 2 = .ok (.sipush 200, 3) := by decide +kernel
theorem dX8_pass_5 : decode cX8_pass 5 = .ok (.invokestatic 109, 3) := by decide +kernel
theorem dX8_pass_8 : decode cX8_pass 8 = .ok (.ifCond .ne 13, 3) := by decide +kernel
theorem dX8_pass_11 : decode cX8_pass 11 = .ok (.new 53, 3) := by decide +kernel
theorem dX8_pass_14 : decode cX8_pass 14 = .ok (.dup, 1) := by decide +kernel
theorem dX8_pass_15 : decode cX8_pass 15 = .ok (.ldc 129, 2) := by decide +kernel
theorem dX8_pass_17 : decode cX8_pass 17 = .ok (.invokespecial 57, 3) := by decide +kernel
theorem dX8_pass_20 : decode cX8_pass 20 = .ok (.athrow, 1) := by decide +kernel
theorem dX8_pass_21 : decode cX8_pass 21 = .ok (.aload_n 0, 1) := by decide +kernel
theorem dX8_pass_22 : decode cX8_pass 22 = .ok (.getfield 30, 3) := by decide +kernel
theorem dX8_pass_25 : decode cX8_pass 25 = .ok (.getfield 131, 3) := by decide +kernel
theorem dX8_pass_28 : decode cX8_pass 28 = .ok (.iload_n 1, 1) := by decide +kernel
theorem dX8_pass_29 : decode cX8_pass 29 = .ok (.iadd, 1) := by decide +kernel
theorem dX8_pass_30 : decode cX8_pass 30 = .ok (.sipush 2000, 3) := by decide +kernel
theorem dX8_pass_33 : decode cX8_pass 33 = .ok (.if_icmp .le 13, 3) := by decide +kernel
theorem dX8_pass_36 : decode cX8_pass 36 = .ok (.new 63, 3) := by decide +kernel
theorem dX8_pass_39 : decode cX8_pass 39 = .ok (.dup, 1) := by decide +kernel
theorem dX8_pass_40 : decode cX8_pass 40 = .ok (.ldc 134, 2) := by decide +kernel
theorem dX8_pass_42 : decode cX8_pass 42 = .ok (.invokespecial 67, 3) := by decide +kernel
theorem dX8_pass_45 : decode cX8_pass 45 = .ok (.athrow, 1) := by decide +kernel
theorem dX8_pass_46 : decode cX8_pass 46 = .ok (.iconst 0, 1) := by decide +kernel
theorem dX8_pass_47 : decode cX8_pass 47 = .ok (.istore_n 2, 1) := by decide +kernel
theorem dX8_pass_48 : decode cX8_pass 48 = .ok (.iload_n 2, 1) := by decide +kernel
theorem dX8_pass_49 : decode cX8_pass 49 = .ok (.iload_n 1, 1) := by decide +kernel
theorem dX8_pass_50 : decode cX8_pass 50 = .ok (.if_icmp .ge 16, 3) := by decide +kernel
theorem dX8_pass_53 : decode cX8_pass 53 = .ok (.aload_n 0, 1) := by decide +kernel
theorem dX8_pass_54 : decode cX8_pass 54 = .ok (.getfield 30, 3) := by decide +kernel
theorem dX8_pass_57 : decode cX8_pass 57 = .ok (.invokevirtual 136, 3) := by decide +kernel
theorem dX8_pass_60 : decode cX8_pass 60 = .ok (.iinc 2 1, 3) := by decide +kernel
theorem dX8_pass_63 : decode cX8_pass 63 = .ok (.goto (-15), 3) := by decide +kernel
theorem dX8_pass_66 : decode cX8_pass 66 = .ok (.aload_n 0, 1) := by decide +kernel
theorem dX8_pass_67 : decode cX8_pass 67 = .ok (.getfield 30, 3) := by decide +kernel
theorem dX8_pass_70 : decode cX8_pass 70 = .ok (.getfield 131, 3) := by decide +kernel
theorem dX8_pass_73 : decode cX8_pass 73 = .ok (.ireturn, 1) := by decide +kernel
theorem dX8_exchange_0 : decode cX8_exchange 0 = .ok (.iload_n 1, 1) := by decide +kernel
theorem dX8_exchange_1 : decode cX8_exchange 1 = .ok (.iconst 1, 1) := by decide +kernel
theorem dX8_exchange_2 : decode cX8_exchange 2 = .ok (.bipush 10, 2) := by decide +kernel
theorem dX8_exchange_4 : decode cX8_exchange 4 = .ok (.invokestatic 109, 3) := by decide +kernel
theorem dX8_exchange_7 : decode cX8_exchange 7 = .ok (.ifCond .ne 13, 3) := by decide +kernel
theorem dX8_exchange_10 : decode cX8_exchange 10 = .ok (.new 53, 3) := by decide +kernel
theorem dX8_exchange_13 : decode cX8_exchange 13 = .ok (.dup, 1) := by decide +kernel
theorem dX8_exchange_14 : decode cX8_exchange 14 = .ok (.ldc 139, 2) := by decide +kernel
theorem dX8_exchange_16 : decode cX8_exchange 16 = .ok (.invokespecial 57, 3) := by decide +kernel
theorem dX8_exchange_19 : decode cX8_exchange 19 = .ok (.athrow, 1) := by decide +kernel
theorem dX8_exchange_20 : decode cX8_exchange 20 = .ok (.iconst 0, 1) := by decide +kernel
theorem dX8_exchange_21 : decode cX8_exchange 21 = .ok (.istore_n 2, 1) := by decide +kernel
theorem dX8_exchange_22 : decode cX8_exchange 22 = .ok (.iload_n 2, 1) := by decide +kernel
theorem dX8_exchange_23 : decode cX8_exchange 23 = .ok (.iload_n 1, 1) := by decide +kernel
theorem dX8_exchange_24 : decode cX8_exchange 24 = .ok (.if_icmp .ge 16, 3) := by decide +kernel
theorem dX8_exchange_27 : decode cX8_exchange 27 = .ok (.aload_n 0, 1) := by decide +kernel
theorem dX8_exchange_28 : decode cX8_exchange 28 = .ok (.getfield 21, 3) := by decide +kernel
theorem dX8_exchange_31 : decode cX8_exchange 31 = .ok (.invokevirtual 141, 3) := by decide +kernel
theorem dX8_exchange_34 : decode cX8_exchange 34 = .ok (.iinc 2 1, 3) := by decide +kernel
theorem dX8_exchange_37 : decode cX8_exchange 37 = .ok (.goto (-15), 3) := by decide +kernel
theorem dX8_exchange_40 : decode cX8_exchange 40 = .ok (.aload_n 0, 1) := by decide +kernel
theorem dX8_exchange_41 : decode cX8_exchange 41 = .ok (.getfield 21, 3) := by decide +kernel
theorem dX8_exchange_44 : decode cX8_exchange 44 = .ok (.invokevirtual 144, 3) := by decide +kernel
theorem dX8_exchange_47 : decode cX8_exchange 47 = .ok (.ireturn, 1) := by decide +kernel
theorem dX8_bid_0 : decode cX8_bid 0 = .ok (.iload_n 1, 1) := by decide +kernel
theorem dX8_bid_1 : decode cX8_bid 1 = .ok (.iconst 0, 1) := by decide +kernel
theorem dX8_bid_2 : decode cX8_bid 2 = .ok (.iconst 4, 1) := by decide +kernel
theorem dX8_bid_3 : decode cX8_bid 3 = .ok (.invokestatic 109, 3) := by decide +kernel
theorem dX8_bid_6 : decode cX8_bid 6 = .ok (.ifCond .eq 24, 3) := by decide +kernel
theorem dX8_bid_9 : decode cX8_bid 9 = .ok (.iload_n 2, 1) := by decide +kernel
theorem dX8_bid_10 : decode cX8_bid 10 = .ok (.iconst 1, 1) := by decide +kernel
theorem dX8_bid_11 : decode cX8_bid 11 = .ok (.bipush 63, 2) := by decide +kernel
theorem dX8_bid_13 : decode cX8_bid 13 = .ok (.invokestatic 109, 3) := by decide +kernel
theorem dX8_bid_16 : decode cX8_bid 16 = .ok (.ifCond .eq 14, 3) := by decide +kernel
theorem dX8_bid_19 : decode cX8_bid 19 = .ok (.iload_n 3, 1) := by decide +kernel
theorem dX8_bid_20 : decode cX8_bid 20 = .ok (.iconst 1, 1) := by decide +kernel
theorem dX8_bid_21 : decode cX8_bid 21 = .ok (.sipush 999, 3) := by decide +kernel
theorem dX8_bid_24 : decode cX8_bid 24 = .ok (.invokestatic 109, 3) := by decide +kernel
theorem dX8_bid_27 : decode cX8_bid 27 = .ok (.ifCond .ne 13, 3) := by decide +kernel
theorem dX8_bid_30 : decode cX8_bid 30 = .ok (.new 53, 3) := by decide +kernel
theorem dX8_bid_33 : decode cX8_bid 33 = .ok (.dup, 1) := by decide +kernel
theorem dX8_bid_34 : decode cX8_bid 34 = .ok (.ldc 148, 2) := by decide +kernel
theorem dX8_bid_36 : decode cX8_bid 36 = .ok (.invokespecial 57, 3) := by decide +kernel
theorem dX8_bid_39 : decode cX8_bid 39 = .ok (.athrow, 1) := by decide +kernel
theorem dX8_bid_40 : decode cX8_bid 40 = .ok (.aload_n 0, 1) := by decide +kernel
theorem dX8_bid_41 : decode cX8_bid 41 = .ok (.getfield 37, 3) := by decide +kernel
theorem dX8_bid_44 : decode cX8_bid 44 = .ok (.getfield 150, 3) := by decide +kernel
theorem dX8_bid_47 : decode cX8_bid 47 = .ok (.bipush 10, 2) := by decide +kernel
theorem dX8_bid_49 : decode cX8_bid 49 = .ok (.if_icmp .lt 13, 3) := by decide +kernel
theorem dX8_bid_52 : decode cX8_bid 52 = .ok (.new 63, 3) := by decide +kernel
theorem dX8_bid_55 : decode cX8_bid 55 = .ok (.dup, 1) := by decide +kernel
theorem dX8_bid_56 : decode cX8_bid 56 = .ok (.ldc 151, 2) := by decide +kernel
theorem dX8_bid_58 : decode cX8_bid 58 = .ok (.invokespecial 67, 3) := by decide +kernel
theorem dX8_bid_61 : decode cX8_bid 61 = .ok (.athrow, 1) := by decide +kernel
theorem dX8_bid_62 : decode cX8_bid 62 = .ok (.aload_n 0, 1) := by decide +kernel
theorem dX8_bid_63 : decode cX8_bid 63 = .ok (.getfield 37, 3) := by decide +kernel
theorem dX8_bid_66 : decode cX8_bid 66 = .ok (.iload_n 1, 1) := by decide +kernel
theorem dX8_bid_67 : decode cX8_bid 67 = .ok (.iload_n 2, 1) := by decide +kernel
theorem dX8_bid_68 : decode cX8_bid 68 = .ok (.iload_n 3, 1) := by decide +kernel
theorem dX8_bid_69 : decode cX8_bid 69 = .ok (.invokevirtual 153, 3) := by decide +kernel
theorem dX8_bid_72 : decode cX8_bid 72 = .ok (.ireturn, 1) := by decide +kernel
theorem dX8_sell_0 : decode cX8_sell 0 = .ok (.aload_n 0, 1) := by decide +kernel
theorem dX8_sell_1 : decode cX8_sell 1 = .ok (.getfield 37, 3) := by decide +kernel
theorem dX8_sell_4 : decode cX8_sell 4 = .ok (.invokevirtual 156, 3) := by decide +kernel
theorem dX8_sell_7 : decode cX8_sell 7 = .ok (.ireturn, 1) := by decide +kernel
theorem dX8_hears_0 : decode cX8_hears 0 = .ok (.aload_n 0, 1) := by decide +kernel
theorem dX8_hears_1 : decode cX8_hears 1 = .ok (.iload_n 1, 1) := by decide +kernel
theorem dX8_hears_2 : decode cX8_hears 2 = .ok (.iload_n 2, 1) := by decide +kernel
theorem dX8_hears_3 : decode cX8_hears 3 = .ok (.invokevirtual 159, 3) := by decide +kernel
theorem dX8_hears_6 : decode cX8_hears 6 = .ok (.aload_n 0, 1) := by decide +kernel
theorem dX8_hears_7 : decode cX8_hears 7 = .ok (.getfield 10, 3) := by decide +kernel
theorem dX8_hears_10 : decode cX8_hears 10 = .ok (.iload_n 1, 1) := by decide +kernel
theorem dX8_hears_11 : decode cX8_hears 11 = .ok (.iload_n 2, 1) := by decide +kernel
theorem dX8_hears_12 : decode cX8_hears 12 = .ok (.invokevirtual 163, 3) := by decide +kernel
theorem dX8_hears_15 : decode cX8_hears 15 = .ok (.ireturn, 1) := by decide +kernel
theorem dX8_ofNode_0 : decode cX8_ofNode 0 = .ok (.aload_n 0, 1) := by decide +kernel
theorem dX8_ofNode_1 : decode cX8_ofNode 1 = .ok (.iload_n 1, 1) := by decide +kernel
theorem dX8_ofNode_2 : decode cX8_ofNode 2 = .ok (.invokevirtual 72, 3) := by decide +kernel
theorem dX8_ofNode_5 : decode cX8_ofNode 5 = .ok (.aload_n 0, 1) := by decide +kernel
theorem dX8_ofNode_6 : decode cX8_ofNode 6 = .ok (.getfield 10, 3) := by decide +kernel
theorem dX8_ofNode_9 : decode cX8_ofNode 9 = .ok (.getfield 96, 3) := by decide +kernel
theorem dX8_ofNode_12 : decode cX8_ofNode 12 = .ok (.iload_n 1, 1) := by decide +kernel
theorem dX8_ofNode_13 : decode cX8_ofNode 13 = .ok (.aaload, 1) := by decide +kernel
theorem dX8_ofNode_14 : decode cX8_ofNode 14 = .ok (.astore_n 3, 1) := by decide +kernel
theorem dX8_ofNode_15 : decode cX8_ofNode 15 = .ok (.iload_n 2, 1) := by decide +kernel
theorem dX8_ofNode_16 : decode cX8_ofNode 16 = .ok (.tableswitch 187 0 15 #[80, 85, 90, 95, 108, 116, 121, 126, 131, 136, 141, 146, 151, 156, 173, 182], 80) := by decide +kernel
theorem dX8_ofNode_96 : decode cX8_ofNode 96 = .ok (.aload_n 3, 1) := by decide +kernel
theorem dX8_ofNode_97 : decode cX8_ofNode 97 = .ok (.getfield 166, 3) := by decide +kernel
theorem dX8_ofNode_100 : decode cX8_ofNode 100 = .ok (.ireturn, 1) := by decide +kernel
theorem dX8_ofNode_101 : decode cX8_ofNode 101 = .ok (.aload_n 3, 1) := by decide +kernel
theorem dX8_ofNode_102 : decode cX8_ofNode 102 = .ok (.getfield 169, 3) := by decide +kernel
theorem dX8_ofNode_105 : decode cX8_ofNode 105 = .ok (.ireturn, 1) := by decide +kernel
theorem dX8_ofNode_106 : decode cX8_ofNode 106 = .ok (.aload_n 3, 1) := by decide +kernel
theorem dX8_ofNode_107 : decode cX8_ofNode 107 = .ok (.getfield 100, 3) := by decide +kernel
theorem dX8_ofNode_110 : decode cX8_ofNode 110 = .ok (.ireturn, 1) := by decide +kernel
theorem dX8_ofNode_111 : decode cX8_ofNode 111 = .ok (.aload_n 3, 1) := by decide +kernel
theorem dX8_ofNode_112 : decode cX8_ofNode 112 = .ok (.getfield 172, 3) := by decide +kernel
theorem dX8_ofNode_115 : decode cX8_ofNode 115 = .ok (.ifCond .eq 7, 3) := by decide +kernel
theorem dX8_ofNode_118 : decode cX8_ofNode 118 = .ok (.iconst 1, 1) := by decide +kernel
theorem dX8_ofNode_119 : decode cX8_ofNode 119 = .ok (.goto 4, 3) := by decide +kernel
theorem dX8_ofNode_122 : decode cX8_ofNode 122 = .ok (.iconst 0, 1) := by decide +kernel
theorem dX8_ofNode_123 : decode cX8_ofNode 123 = .ok (.ireturn, 1) := by decide +kernel
theorem dX8_ofNode_124 : decode cX8_ofNode 124 = .ok (.aload_n 3, 1) := by decide +kernel
theorem dX8_ofNode_125 : decode cX8_ofNode 125 = .ok (.getfield 118, 3) := by decide +kernel
theorem dX8_ofNode_128 : decode cX8_ofNode 128 = .ok (.getfield 176, 3) := by decide +kernel
theorem dX8_ofNode_131 : decode cX8_ofNode 131 = .ok (.ireturn, 1) := by decide +kernel
theorem dX8_ofNode_132 : decode cX8_ofNode 132 = .ok (.aload_n 3, 1) := by decide +kernel
theorem dX8_ofNode_133 : decode cX8_ofNode 133 = .ok (.getfield 179, 3) := by decide +kernel
theorem dX8_ofNode_136 : decode cX8_ofNode 136 = .ok (.ireturn, 1) := by decide +kernel
theorem dX8_ofNode_137 : decode cX8_ofNode 137 = .ok (.aload_n 3, 1) := by decide +kernel
theorem dX8_ofNode_138 : decode cX8_ofNode 138 = .ok (.getfield 182, 3) := by decide +kernel
theorem dX8_ofNode_141 : decode cX8_ofNode 141 = .ok (.ireturn, 1) := by decide +kernel
theorem dX8_ofNode_142 : decode cX8_ofNode 142 = .ok (.aload_n 3, 1) := by decide +kernel
theorem dX8_ofNode_143 : decode cX8_ofNode 143 = .ok (.getfield 185, 3) := by decide +kernel
theorem dX8_ofNode_146 : decode cX8_ofNode 146 = .ok (.ireturn, 1) := by decide +kernel
theorem dX8_ofNode_147 : decode cX8_ofNode 147 = .ok (.aload_n 3, 1) := by decide +kernel
theorem dX8_ofNode_148 : decode cX8_ofNode 148 = .ok (.getfield 188, 3) := by decide +kernel
theorem dX8_ofNode_151 : decode cX8_ofNode 151 = .ok (.ireturn, 1) := by decide +kernel
theorem dX8_ofNode_152 : decode cX8_ofNode 152 = .ok (.aload_n 3, 1) := by decide +kernel
theorem dX8_ofNode_153 : decode cX8_ofNode 153 = .ok (.getfield 191, 3) := by decide +kernel
theorem dX8_ofNode_156 : decode cX8_ofNode 156 = .ok (.ireturn, 1) := by decide +kernel
theorem dX8_ofNode_157 : decode cX8_ofNode 157 = .ok (.aload_n 3, 1) := by decide +kernel
theorem dX8_ofNode_158 : decode cX8_ofNode 158 = .ok (.getfield 194, 3) := by decide +kernel
theorem dX8_ofNode_161 : decode cX8_ofNode 161 = .ok (.ireturn, 1) := by decide +kernel
theorem dX8_ofNode_162 : decode cX8_ofNode 162 = .ok (.aload_n 3, 1) := by decide +kernel
theorem dX8_ofNode_163 : decode cX8_ofNode 163 = .ok (.getfield 197, 3) := by decide +kernel
theorem dX8_ofNode_166 : decode cX8_ofNode 166 = .ok (.ireturn, 1) := by decide +kernel
theorem dX8_ofNode_167 : decode cX8_ofNode 167 = .ok (.aload_n 3, 1) := by decide +kernel
theorem dX8_ofNode_168 : decode cX8_ofNode 168 = .ok (.getfield 200, 3) := by decide +kernel
theorem dX8_ofNode_171 : decode cX8_ofNode 171 = .ok (.ireturn, 1) := by decide +kernel
theorem dX8_ofNode_172 : decode cX8_ofNode 172 = .ok (.aload_n 0, 1) := by decide +kernel
theorem dX8_ofNode_173 : decode cX8_ofNode 173 = .ok (.getfield 10, 3) := by decide +kernel
theorem dX8_ofNode_176 : decode cX8_ofNode 176 = .ok (.iload_n 1, 1) := by decide +kernel
theorem dX8_ofNode_177 : decode cX8_ofNode 177 = .ok (.invokevirtual 203, 3) := by decide +kernel
theorem dX8_ofNode_180 : decode cX8_ofNode 180 = .ok (.ifCond .eq 7, 3) := by decide +kernel
theorem dX8_ofNode_183 : decode cX8_ofNode 183 = .ok (.iconst 1, 1) := by decide +kernel
theorem dX8_ofNode_184 : decode cX8_ofNode 184 = .ok (.goto 4, 3) := by decide +kernel
theorem dX8_ofNode_187 : decode cX8_ofNode 187 = .ok (.iconst 0, 1) := by decide +kernel
theorem dX8_ofNode_188 : decode cX8_ofNode 188 = .ok (.ireturn, 1) := by decide +kernel
theorem dX8_ofNode_189 : decode cX8_ofNode 189 = .ok (.aload_n 0, 1) := by decide +kernel
theorem dX8_ofNode_190 : decode cX8_ofNode 190 = .ok (.getfield 10, 3) := by decide +kernel
theorem dX8_ofNode_193 : decode cX8_ofNode 193 = .ok (.iload_n 1, 1) := by decide +kernel
theorem dX8_ofNode_194 : decode cX8_ofNode 194 = .ok (.invokevirtual 85, 3) := by decide +kernel
theorem dX8_ofNode_197 : decode cX8_ofNode 197 = .ok (.ireturn, 1) := by decide +kernel
theorem dX8_ofNode_198 : decode cX8_ofNode 198 = .ok (.aload_n 3, 1) := by decide +kernel
theorem dX8_ofNode_199 : decode cX8_ofNode 199 = .ok (.getfield 115, 3) := by decide +kernel
theorem dX8_ofNode_202 : decode cX8_ofNode 202 = .ok (.ireturn, 1) := by decide +kernel
theorem dX8_ofNode_203 : decode cX8_ofNode 203 = .ok (.new 53, 3) := by decide +kernel
theorem dX8_ofNode_206 : decode cX8_ofNode 206 = .ok (.dup, 1) := by decide +kernel
theorem dX8_ofNode_207 : decode cX8_ofNode 207 = .ok (.ldc 206, 2) := by decide +kernel
theorem dX8_ofNode_209 : decode cX8_ofNode 209 = .ok (.invokespecial 57, 3) := by decide +kernel
theorem dX8_ofNode_212 : decode cX8_ofNode 212 = .ok (.athrow, 1) := by decide +kernel
theorem dX8_inQueue_0 : decode cX8_inQueue 0 = .ok (.aload_n 0, 1) := by decide +kernel
theorem dX8_inQueue_1 : decode cX8_inQueue 1 = .ok (.iload_n 1, 1) := by decide +kernel
theorem dX8_inQueue_2 : decode cX8_inQueue 2 = .ok (.invokevirtual 72, 3) := by decide +kernel
theorem dX8_inQueue_5 : decode cX8_inQueue 5 = .ok (.iload_n 2, 1) := by decide +kernel
theorem dX8_inQueue_6 : decode cX8_inQueue 6 = .ok (.ifCond .lt 12, 3) := by decide +kernel
theorem dX8_inQueue_9 : decode cX8_inQueue 9 = .ok (.iload_n 3, 1) := by decide +kernel
theorem dX8_inQueue_10 : decode cX8_inQueue 10 = .ok (.iconst 0, 1) := by decide +kernel
theorem dX8_inQueue_11 : decode cX8_inQueue 11 = .ok (.iconst 4, 1) := by decide +kernel
theorem dX8_inQueue_12 : decode cX8_inQueue 12 = .ok (.invokestatic 109, 3) := by decide +kernel
theorem dX8_inQueue_15 : decode cX8_inQueue 15 = .ok (.ifCond .ne 13, 3) := by decide +kernel
theorem dX8_inQueue_18 : decode cX8_inQueue 18 = .ok (.new 53, 3) := by decide +kernel
theorem dX8_inQueue_21 : decode cX8_inQueue 21 = .ok (.dup, 1) := by decide +kernel
theorem dX8_inQueue_22 : decode cX8_inQueue 22 = .ok (.ldc 208, 2) := by decide +kernel
theorem dX8_inQueue_24 : decode cX8_inQueue 24 = .ok (.invokespecial 57, 3) := by decide +kernel
theorem dX8_inQueue_27 : decode cX8_inQueue 27 = .ok (.athrow, 1) := by decide +kernel
theorem dX8_inQueue_28 : decode cX8_inQueue 28 = .ok (.aload_n 0, 1) := by decide +kernel
theorem dX8_inQueue_29 : decode cX8_inQueue 29 = .ok (.getfield 10, 3) := by decide +kernel
theorem dX8_inQueue_32 : decode cX8_inQueue 32 = .ok (.getfield 96, 3) := by decide +kernel
theorem dX8_inQueue_35 : decode cX8_inQueue 35 = .ok (.iload_n 1, 1) := by decide +kernel
theorem dX8_inQueue_36 : decode cX8_inQueue 36 = .ok (.aaload, 1) := by decide +kernel
theorem dX8_inQueue_37 : decode cX8_inQueue 37 = .ok (.getfield 118, 3) := by decide +kernel
theorem dX8_inQueue_40 : decode cX8_inQueue 40 = .ok (.iload_n 2, 1) := by decide +kernel
theorem dX8_inQueue_41 : decode cX8_inQueue 41 = .ok (.invokevirtual 210, 3) := by decide +kernel
theorem dX8_inQueue_44 : decode cX8_inQueue 44 = .ok (.astore 4, 2) := by decide +kernel
theorem dX8_inQueue_46 : decode cX8_inQueue 46 = .ok (.aload 4, 2) := by decide +kernel
theorem dX8_inQueue_48 : decode cX8_inQueue 48 = .ok (.ifnonnull 5, 3) := by decide +kernel
theorem dX8_inQueue_51 : decode cX8_inQueue 51 = .ok (.iconst (-1), 1) := by decide +kernel
theorem dX8_inQueue_52 : decode cX8_inQueue 52 = .ok (.ireturn, 1) := by decide +kernel
theorem dX8_inQueue_53 : decode cX8_inQueue 53 = .ok (.iload_n 3, 1) := by decide +kernel
theorem dX8_inQueue_54 : decode cX8_inQueue 54 = .ok (.tableswitch 54 0 3 #[30, 36, 42, 48], 30) := by decide +kernel
theorem dX8_inQueue_84 : decode cX8_inQueue 84 = .ok (.aload 4, 2) := by decide +kernel
theorem dX8_inQueue_86 : decode cX8_inQueue 86 = .ok (.getfield 214, 3) := by decide +kernel
theorem dX8_inQueue_89 : decode cX8_inQueue 89 = .ok (.ireturn, 1) := by decide +kernel
theorem dX8_inQueue_90 : decode cX8_inQueue 90 = .ok (.aload 4, 2) := by decide +kernel
theorem dX8_inQueue_92 : decode cX8_inQueue 92 = .ok (.getfield 219, 3) := by decide +kernel
theorem dX8_inQueue_95 : decode cX8_inQueue 95 = .ok (.ireturn, 1) := by decide +kernel
theorem dX8_inQueue_96 : decode cX8_inQueue 96 = .ok (.aload 4, 2) := by decide +kernel
theorem dX8_inQueue_98 : decode cX8_inQueue 98 = .ok (.getfield 222, 3) := by decide +kernel
theorem dX8_inQueue_101 : decode cX8_inQueue 101 = .ok (.ireturn, 1) := by decide +kernel
theorem dX8_inQueue_102 : decode cX8_inQueue 102 = .ok (.aload 4, 2) := by decide +kernel
theorem dX8_inQueue_104 : decode cX8_inQueue 104 = .ok (.getfield 225, 3) := by decide +kernel
theorem dX8_inQueue_107 : decode cX8_inQueue 107 = .ok (.ireturn, 1) := by decide +kernel
theorem dX8_inQueue_108 : decode cX8_inQueue 108 = .ok (.aload 4, 2) := by decide +kernel
theorem dX8_inQueue_110 : decode cX8_inQueue 110 = .ok (.getfield 228, 3) := by decide +kernel
theorem dX8_inQueue_113 : decode cX8_inQueue 113 = .ok (.ireturn, 1) := by decide +kernel
theorem dX8_route_0 : decode cX8_route 0 = .ok (.aload_n 0, 1) := by decide +kernel
theorem dX8_route_1 : decode cX8_route 1 = .ok (.iload_n 1, 1) := by decide +kernel
theorem dX8_route_2 : decode cX8_route 2 = .ok (.iload_n 2, 1) := by decide +kernel
theorem dX8_route_3 : decode cX8_route 3 = .ok (.invokevirtual 159, 3) := by decide +kernel
theorem dX8_route_6 : decode cX8_route 6 = .ok (.iload_n 3, 1) := by decide +kernel
theorem dX8_route_7 : decode cX8_route 7 = .ok (.tableswitch 77 0 3 #[29, 39, 49, 59], 29) := by decide +kernel
theorem dX8_route_36 : decode cX8_route 36 = .ok (.aload_n 0, 1) := by decide +kernel
theorem dX8_route_37 : decode cX8_route 37 = .ok (.getfield 21, 3) := by decide +kernel
theorem dX8_route_40 : decode cX8_route 40 = .ok (.iload_n 1, 1) := by decide +kernel
theorem dX8_route_41 : decode cX8_route 41 = .ok (.iload_n 2, 1) := by decide +kernel
theorem dX8_route_42 : decode cX8_route 42 = .ok (.invokevirtual 231, 3) := by decide +kernel
theorem dX8_route_45 : decode cX8_route 45 = .ok (.ireturn, 1) := by decide +kernel
theorem dX8_route_46 : decode cX8_route 46 = .ok (.aload_n 0, 1) := by decide +kernel
theorem dX8_route_47 : decode cX8_route 47 = .ok (.getfield 21, 3) := by decide +kernel
theorem dX8_route_50 : decode cX8_route 50 = .ok (.iload_n 1, 1) := by decide +kernel
theorem dX8_route_51 : decode cX8_route 51 = .ok (.iload_n 2, 1) := by decide +kernel
theorem dX8_route_52 : decode cX8_route 52 = .ok (.invokevirtual 235, 3) := by decide +kernel
theorem dX8_route_55 : decode cX8_route 55 = .ok (.ireturn, 1) := by decide +kernel
theorem dX8_route_56 : decode cX8_route 56 = .ok (.aload_n 0, 1) := by decide +kernel
theorem dX8_route_57 : decode cX8_route 57 = .ok (.getfield 21, 3) := by decide +kernel
theorem dX8_route_60 : decode cX8_route 60 = .ok (.iload_n 1, 1) := by decide +kernel
theorem dX8_route_61 : decode cX8_route 61 = .ok (.iload_n 2, 1) := by decide +kernel
theorem dX8_route_62 : decode cX8_route 62 = .ok (.invokevirtual 238, 3) := by decide +kernel
theorem dX8_route_65 : decode cX8_route 65 = .ok (.ireturn, 1) := by decide +kernel
theorem dX8_route_66 : decode cX8_route 66 = .ok (.aload_n 0, 1) := by decide +kernel
theorem dX8_route_67 : decode cX8_route 67 = .ok (.getfield 21, 3) := by decide +kernel
theorem dX8_route_70 : decode cX8_route 70 = .ok (.iload_n 1, 1) := by decide +kernel
theorem dX8_route_71 : decode cX8_route 71 = .ok (.iload_n 2, 1) := by decide +kernel
theorem dX8_route_72 : decode cX8_route 72 = .ok (.invokevirtual 241, 3) := by decide +kernel
theorem dX8_route_75 : decode cX8_route 75 = .ok (.ifCond .eq 7, 3) := by decide +kernel
theorem dX8_route_78 : decode cX8_route 78 = .ok (.iconst 1, 1) := by decide +kernel
theorem dX8_route_79 : decode cX8_route 79 = .ok (.goto 4, 3) := by decide +kernel
theorem dX8_route_82 : decode cX8_route 82 = .ok (.iconst 0, 1) := by decide +kernel
theorem dX8_route_83 : decode cX8_route 83 = .ok (.ireturn, 1) := by decide +kernel
theorem dX8_route_84 : decode cX8_route 84 = .ok (.new 53, 3) := by decide +kernel
theorem dX8_route_87 : decode cX8_route 87 = .ok (.dup, 1) := by decide +kernel
theorem dX8_route_88 : decode cX8_route 88 = .ok (.ldc 244, 2) := by decide +kernel
theorem dX8_route_90 : decode cX8_route 90 = .ok (.invokespecial 57, 3) := by decide +kernel
theorem dX8_route_93 : decode cX8_route 93 = .ok (.athrow, 1) := by decide +kernel
theorem dX8_air_0 : decode cX8_air 0 = .ok (.iload_n 1, 1) := by decide +kernel
theorem dX8_air_1 : decode cX8_air 1 = .ok (.tableswitch 171 0 12 #[67, 75, 83, 91, 102, 110, 118, 126, 134, 142, 150, 158, 163], 67) := by decide +kernel
theorem dX8_air_68 : decode cX8_air 68 = .ok (.aload_n 0, 1) := by decide +kernel
theorem dX8_air_69 : decode cX8_air 69 = .ok (.getfield 30, 3) := by decide +kernel
theorem dX8_air_72 : decode cX8_air 72 = .ok (.getfield 131, 3) := by decide +kernel
theorem dX8_air_75 : decode cX8_air 75 = .ok (.ireturn, 1) := by decide +kernel
theorem dX8_air_76 : decode cX8_air 76 = .ok (.aload_n 0, 1) := by decide +kernel
theorem dX8_air_77 : decode cX8_air 77 = .ok (.getfield 10, 3) := by decide +kernel
theorem dX8_air_80 : decode cX8_air 80 = .ok (.getfield 60, 3) := by decide +kernel
theorem dX8_air_83 : decode cX8_air 83 = .ok (.ireturn, 1) := by decide +kernel
theorem dX8_air_84 : decode cX8_air 84 = .ok (.aload_n 0, 1) := by decide +kernel
theorem dX8_air_85 : decode cX8_air 85 = .ok (.getfield 30, 3) := by decide +kernel
theorem dX8_air_88 : decode cX8_air 88 = .ok (.getfield 246, 3) := by decide +kernel
theorem dX8_air_91 : decode cX8_air 91 = .ok (.ireturn, 1) := by decide +kernel
theorem dX8_air_92 : decode cX8_air 92 = .ok (.aload_n 0, 1) := by decide +kernel
theorem dX8_air_93 : decode cX8_air 93 = .ok (.getfield 30, 3) := by decide +kernel
theorem dX8_air_96 : decode cX8_air 96 = .ok (.invokevirtual 249, 3) := by decide +kernel
theorem dX8_air_99 : decode cX8_air 99 = .ok (.invokestatic 89, 3) := by decide +kernel
theorem dX8_air_102 : decode cX8_air 102 = .ok (.ireturn, 1) := by decide +kernel
theorem dX8_air_103 : decode cX8_air 103 = .ok (.aload_n 0, 1) := by decide +kernel
theorem dX8_air_104 : decode cX8_air 104 = .ok (.getfield 30, 3) := by decide +kernel
theorem dX8_air_107 : decode cX8_air 107 = .ok (.getfield 252, 3) := by decide +kernel
theorem dX8_air_110 : decode cX8_air 110 = .ok (.ireturn, 1) := by decide +kernel
theorem dX8_air_111 : decode cX8_air 111 = .ok (.aload_n 0, 1) := by decide +kernel
theorem dX8_air_112 : decode cX8_air 112 = .ok (.getfield 30, 3) := by decide +kernel
theorem dX8_air_115 : decode cX8_air 115 = .ok (.getfield 255, 3) := by decide +kernel
theorem dX8_air_118 : decode cX8_air 118 = .ok (.ireturn, 1) := by decide +kernel
theorem dX8_air_119 : decode cX8_air 119 = .ok (.aload_n 0, 1) := by decide +kernel
theorem dX8_air_120 : decode cX8_air 120 = .ok (.getfield 30, 3) := by decide +kernel
theorem dX8_air_123 : decode cX8_air 123 = .ok (.getfield 258, 3) := by decide +kernel
theorem dX8_air_126 : decode cX8_air 126 = .ok (.ireturn, 1) := by decide +kernel
theorem dX8_air_127 : decode cX8_air 127 = .ok (.aload_n 0, 1) := by decide +kernel
theorem dX8_air_128 : decode cX8_air 128 = .ok (.getfield 10, 3) := by decide +kernel
theorem dX8_air_131 : decode cX8_air 131 = .ok (.invokevirtual 261, 3) := by decide +kernel
theorem dX8_air_134 : decode cX8_air 134 = .ok (.ireturn, 1) := by decide +kernel
theorem dX8_air_135 : decode cX8_air 135 = .ok (.aload_n 0, 1) := by decide +kernel
theorem dX8_air_136 : decode cX8_air 136 = .ok (.getfield 21, 3) := by decide +kernel
theorem dX8_air_139 : decode cX8_air 139 = .ok (.getfield 264, 3) := by decide +kernel
theorem dX8_air_142 : decode cX8_air 142 = .ok (.ireturn, 1) := by decide +kernel
theorem dX8_air_143 : decode cX8_air 143 = .ok (.aload_n 0, 1) := by decide +kernel
theorem dX8_air_144 : decode cX8_air 144 = .ok (.getfield 37, 3) := by decide +kernel
theorem dX8_air_147 : decode cX8_air 147 = .ok (.getfield 150, 3) := by decide +kernel
theorem dX8_air_150 : decode cX8_air 150 = .ok (.ireturn, 1) := by decide +kernel
theorem dX8_air_151 : decode cX8_air 151 = .ok (.aload_n 0, 1) := by decide +kernel
theorem dX8_air_152 : decode cX8_air 152 = .ok (.getfield 37, 3) := by decide +kernel
theorem dX8_air_155 : decode cX8_air 155 = .ok (.getfield 267, 3) := by decide +kernel
theorem dX8_air_158 : decode cX8_air 158 = .ok (.ireturn, 1) := by decide +kernel
theorem dX8_air_159 : decode cX8_air 159 = .ok (.aload_n 0, 1) := by decide +kernel
theorem dX8_air_160 : decode cX8_air 160 = .ok (.getfield 41, 3) := by decide +kernel
theorem dX8_air_163 : decode cX8_air 163 = .ok (.ireturn, 1) := by decide +kernel
theorem dX8_air_164 : decode cX8_air 164 = .ok (.aload_n 0, 1) := by decide +kernel
theorem dX8_air_165 : decode cX8_air 165 = .ok (.getfield 21, 3) := by decide +kernel
theorem dX8_air_168 : decode cX8_air 168 = .ok (.invokevirtual 270, 3) := by decide +kernel
theorem dX8_air_171 : decode cX8_air 171 = .ok (.ireturn, 1) := by decide +kernel
theorem dX8_air_172 : decode cX8_air 172 = .ok (.new 53, 3) := by decide +kernel
theorem dX8_air_175 : decode cX8_air 175 = .ok (.dup, 1) := by decide +kernel
theorem dX8_air_176 : decode cX8_air 176 = .ok (.ldc_w 273, 3) := by decide +kernel
theorem dX8_air_179 : decode cX8_air 179 = .ok (.invokespecial 57, 3) := by decide +kernel
theorem dX8_air_182 : decode cX8_air 182 = .ok (.athrow, 1) := by decide +kernel
theorem dX8_delivered_0 : decode cX8_delivered 0 = .ok (.aload_n 0, 1) := by decide +kernel
theorem dX8_delivered_1 : decode cX8_delivered 1 = .ok (.iload_n 1, 1) := by decide +kernel
theorem dX8_delivered_2 : decode cX8_delivered 2 = .ok (.invokevirtual 72, 3) := by decide +kernel
theorem dX8_delivered_5 : decode cX8_delivered 5 = .ok (.aload_n 0, 1) := by decide +kernel
theorem dX8_delivered_6 : decode cX8_delivered 6 = .ok (.getfield 10, 3) := by decide +kernel
theorem dX8_delivered_9 : decode cX8_delivered 9 = .ok (.getfield 96, 3) := by decide +kernel
theorem dX8_delivered_12 : decode cX8_delivered 12 = .ok (.iload_n 1, 1) := by decide +kernel
theorem dX8_delivered_13 : decode cX8_delivered 13 = .ok (.aaload, 1) := by decide +kernel
theorem dX8_delivered_14 : decode cX8_delivered 14 = .ok (.astore_n 3, 1) := by decide +kernel
theorem dX8_delivered_15 : decode cX8_delivered 15 = .ok (.iload_n 2, 1) := by decide +kernel
theorem dX8_delivered_16 : decode cX8_delivered 16 = .ok (.ifCond .lt 11, 3) := by decide +kernel
theorem dX8_delivered_19 : decode cX8_delivered 19 = .ok (.iload_n 2, 1) := by decide +kernel
theorem dX8_delivered_20 : decode cX8_delivered 20 = .ok (.aload_n 3, 1) := by decide +kernel
theorem dX8_delivered_21 : decode cX8_delivered 21 = .ok (.getfield 115, 3) := by decide +kernel
theorem dX8_delivered_24 : decode cX8_delivered 24 = .ok (.if_icmp .lt 14, 3) := by decide +kernel
theorem dX8_delivered_27 : decode cX8_delivered 27 = .ok (.new 275, 3) := by decide +kernel
theorem dX8_delivered_30 : decode cX8_delivered 30 = .ok (.dup, 1) := by decide +kernel
theorem dX8_delivered_31 : decode cX8_delivered 31 = .ok (.ldc_w 277, 3) := by decide +kernel
theorem dX8_delivered_34 : decode cX8_delivered 34 = .ok (.invokespecial 279, 3) := by decide +kernel
theorem dX8_delivered_37 : decode cX8_delivered 37 = .ok (.athrow, 1) := by decide +kernel
theorem dX8_delivered_38 : decode cX8_delivered 38 = .ok (.aload_n 3, 1) := by decide +kernel
theorem dX8_delivered_39 : decode cX8_delivered 39 = .ok (.getfield 280, 3) := by decide +kernel
theorem dX8_delivered_42 : decode cX8_delivered 42 = .ok (.iload_n 2, 1) := by decide +kernel
theorem dX8_delivered_43 : decode cX8_delivered 43 = .ok (.invokevirtual 284, 3) := by decide +kernel
theorem dX8_delivered_46 : decode cX8_delivered 46 = .ok (.ireturn, 1) := by decide +kernel
theorem dX8_fairness_0 : decode cX8_fairness 0 = .ok (.lconst 0, 1) := by decide +kernel
theorem dX8_fairness_1 : decode cX8_fairness 1 = .ok (.lstore_n 1, 1) := by decide +kernel
theorem dX8_fairness_2 : decode cX8_fairness 2 = .ok (.lconst 0, 1) := by decide +kernel
theorem dX8_fairness_3 : decode cX8_fairness 3 = .ok (.lstore_n 3, 1) := by decide +kernel
theorem dX8_fairness_4 : decode cX8_fairness 4 = .ok (.iconst 0, 1) := by decide +kernel
theorem dX8_fairness_5 : decode cX8_fairness 5 = .ok (.istore 5, 2) := by decide +kernel
theorem dX8_fairness_7 : decode cX8_fairness 7 = .ok (.iload 5, 2) := by decide +kernel
theorem dX8_fairness_9 : decode cX8_fairness 9 = .ok (.aload_n 0, 1) := by decide +kernel
theorem dX8_fairness_10 : decode cX8_fairness 10 = .ok (.getfield 10, 3) := by decide +kernel
theorem dX8_fairness_13 : decode cX8_fairness 13 = .ok (.getfield 60, 3) := by decide +kernel
theorem dX8_fairness_16 : decode cX8_fairness 16 = .ok (.if_icmp .ge 38, 3) := by decide +kernel
theorem dX8_fairness_19 : decode cX8_fairness 19 = .ok (.aload_n 0, 1) := by decide +kernel
theorem dX8_fairness_20 : decode cX8_fairness 20 = .ok (.getfield 10, 3) := by decide +kernel
theorem dX8_fairness_23 : decode cX8_fairness 23 = .ok (.getfield 96, 3) := by decide +kernel
theorem dX8_fairness_26 : decode cX8_fairness 26 = .ok (.iload 5, 2) := by decide +kernel
theorem dX8_fairness_28 : decode cX8_fairness 28 = .ok (.aaload, 1) := by decide +kernel
theorem dX8_fairness_29 : decode cX8_fairness 29 = .ok (.getfield 191, 3) := by decide +kernel
theorem dX8_fairness_32 : decode cX8_fairness 32 = .ok (.i2l, 1) := by decide +kernel
theorem dX8_fairness_33 : decode cX8_fairness 33 = .ok (.lstore 6, 2) := by decide +kernel
theorem dX8_fairness_35 : decode cX8_fairness 35 = .ok (.lload_n 1, 1) := by decide +kernel
theorem dX8_fairness_36 : decode cX8_fairness 36 = .ok (.lload 6, 2) := by decide +kernel
theorem dX8_fairness_38 : decode cX8_fairness 38 = .ok (.ladd, 1) := by decide +kernel
theorem dX8_fairness_39 : decode cX8_fairness 39 = .ok (.lstore_n 1, 1) := by decide +kernel
theorem dX8_fairness_40 : decode cX8_fairness 40 = .ok (.lload_n 3, 1) := by decide +kernel
theorem dX8_fairness_41 : decode cX8_fairness 41 = .ok (.lload 6, 2) := by decide +kernel
theorem dX8_fairness_43 : decode cX8_fairness 43 = .ok (.lload 6, 2) := by decide +kernel
theorem dX8_fairness_45 : decode cX8_fairness 45 = .ok (.lmul, 1) := by decide +kernel
theorem dX8_fairness_46 : decode cX8_fairness 46 = .ok (.ladd, 1) := by decide +kernel
theorem dX8_fairness_47 : decode cX8_fairness 47 = .ok (.lstore_n 3, 1) := by decide +kernel
theorem dX8_fairness_48 : decode cX8_fairness 48 = .ok (.iinc 5 1, 3) := by decide +kernel
theorem dX8_fairness_51 : decode cX8_fairness 51 = .ok (.goto (-44), 3) := by decide +kernel
theorem dX8_fairness_54 : decode cX8_fairness 54 = .ok (.lload_n 3, 1) := by decide +kernel
theorem dX8_fairness_55 : decode cX8_fairness 55 = .ok (.lconst 0, 1) := by decide +kernel
theorem dX8_fairness_56 : decode cX8_fairness 56 = .ok (.lcmp, 1) := by decide +kernel
theorem dX8_fairness_57 : decode cX8_fairness 57 = .ok (.ifCond .gt 5, 3) := by decide +kernel
theorem dX8_fairness_60 : decode cX8_fairness 60 = .ok (.dconst 1, 1) := by decide +kernel
theorem dX8_fairness_61 : decode cX8_fairness 61 = .ok (.dreturn, 1) := by decide +kernel
theorem dX8_fairness_62 : decode cX8_fairness 62 = .ok (.lload_n 1, 1) := by decide +kernel
theorem dX8_fairness_63 : decode cX8_fairness 63 = .ok (.lload_n 1, 1) := by decide +kernel
theorem dX8_fairness_64 : decode cX8_fairness 64 = .ok (.lmul, 1) := by decide +kernel
theorem dX8_fairness_65 : decode cX8_fairness 65 = .ok (.l2d, 1) := by decide +kernel
theorem dX8_fairness_66 : decode cX8_fairness 66 = .ok (.aload_n 0, 1) := by decide +kernel
theorem dX8_fairness_67 : decode cX8_fairness 67 = .ok (.getfield 10, 3) := by decide +kernel
theorem dX8_fairness_70 : decode cX8_fairness 70 = .ok (.getfield 60, 3) := by decide +kernel
theorem dX8_fairness_73 : decode cX8_fairness 73 = .ok (.i2l, 1) := by decide +kernel
theorem dX8_fairness_74 : decode cX8_fairness 74 = .ok (.lload_n 3, 1) := by decide +kernel
theorem dX8_fairness_75 : decode cX8_fairness 75 = .ok (.lmul, 1) := by decide +kernel
theorem dX8_fairness_76 : decode cX8_fairness 76 = .ok (.l2d, 1) := by decide +kernel
theorem dX8_fairness_77 : decode cX8_fairness 77 = .ok (.ddiv, 1) := by decide +kernel
theorem dX8_fairness_78 : decode cX8_fairness 78 = .ok (.dreturn, 1) := by decide +kernel
theorem dX8_would_0 : decode cX8_would 0 = .ok (.aload_n 0, 1) := by decide +kernel
theorem dX8_would_1 : decode cX8_would 1 = .ok (.iload_n 2, 1) := by decide +kernel
theorem dX8_would_2 : decode cX8_would 2 = .ok (.invokevirtual 72, 3) := by decide +kernel
theorem dX8_would_5 : decode cX8_would 5 = .ok (.iload_n 1, 1) := by decide +kernel
theorem dX8_would_6 : decode cX8_would 6 = .ok (.iconst 0, 1) := by decide +kernel
theorem dX8_would_7 : decode cX8_would 7 = .ok (.aload_n 0, 1) := by decide +kernel
theorem dX8_would_8 : decode cX8_would 8 = .ok (.getfield 10, 3) := by decide +kernel
theorem dX8_would_11 : decode cX8_would 11 = .ok (.invokevirtual 304, 3) := by decide +kernel
theorem dX8_would_14 : decode cX8_would 14 = .ok (.invokestatic 109, 3) := by decide +kernel
theorem dX8_would_17 : decode cX8_would 17 = .ok (.ifCond .eq 11, 3) := by decide +kernel
theorem dX8_would_20 : decode cX8_would 20 = .ok (.iload_n 1, 1) := by decide +kernel
theorem dX8_would_21 : decode cX8_would 21 = .ok (.iload_n 2, 1) := by decide +kernel
theorem dX8_would_22 : decode cX8_would 22 = .ok (.invokestatic 307, 3) := by decide +kernel
theorem dX8_would_25 : decode cX8_would 25 = .ok (.ifCond .eq 14, 3) := by decide +kernel
theorem dX8_would_28 : decode cX8_would 28 = .ok (.new 53, 3) := by decide +kernel
theorem dX8_would_31 : decode cX8_would 31 = .ok (.dup, 1) := by decide +kernel
theorem dX8_would_32 : decode cX8_would 32 = .ok (.ldc_w 310, 3) := by decide +kernel
theorem dX8_would_35 : decode cX8_would 35 = .ok (.invokespecial 57, 3) := by decide +kernel
theorem dX8_would_38 : decode cX8_would 38 = .ok (.athrow, 1) := by decide +kernel
theorem dX8_would_39 : decode cX8_would 39 = .ok (.iconst 0, 1) := by decide +kernel
theorem dX8_would_40 : decode cX8_would 40 = .ok (.istore_n 3, 1) := by decide +kernel
theorem dX8_would_41 : decode cX8_would 41 = .ok (.iload_n 3, 1) := by decide +kernel
theorem dX8_would_42 : decode cX8_would 42 = .ok (.aload_n 0, 1) := by decide +kernel
theorem dX8_would_43 : decode cX8_would 43 = .ok (.getfield 10, 3) := by decide +kernel
theorem dX8_would_46 : decode cX8_would 46 = .ok (.getfield 60, 3) := by decide +kernel
theorem dX8_would_49 : decode cX8_would 49 = .ok (.if_icmp .ge 32, 3) := by decide +kernel
theorem dX8_would_52 : decode cX8_would 52 = .ok (.iload_n 1, 1) := by decide +kernel
theorem dX8_would_53 : decode cX8_would 53 = .ok (.iload_n 3, 1) := by decide +kernel
theorem dX8_would_54 : decode cX8_would 54 = .ok (.invokestatic 307, 3) := by decide +kernel
theorem dX8_would_57 : decode cX8_would 57 = .ok (.ifCond .eq 18, 3) := by decide +kernel
theorem dX8_would_60 : decode cX8_would 60 = .ok (.aload_n 0, 1) := by decide +kernel
theorem dX8_would_61 : decode cX8_would 61 = .ok (.getfield 10, 3) := by decide +kernel
theorem dX8_would_64 : decode cX8_would 64 = .ok (.iload_n 2, 1) := by decide +kernel
theorem dX8_would_65 : decode cX8_would 65 = .ok (.iload_n 3, 1) := by decide +kernel
theorem dX8_would_66 : decode cX8_would 66 = .ok (.iload_n 1, 1) := by decide +kernel
theorem dX8_would_67 : decode cX8_would 67 = .ok (.invokevirtual 312, 3) := by decide +kernel
theorem dX8_would_70 : decode cX8_would 70 = .ok (.ifCond .eq 5, 3) := by decide +kernel
theorem dX8_would_73 : decode cX8_would 73 = .ok (.iload_n 3, 1) := by decide +kernel
theorem dX8_would_74 : decode cX8_would 74 = .ok (.ireturn, 1) := by decide +kernel
theorem dX8_would_75 : decode cX8_would 75 = .ok (.iinc 3 1, 3) := by decide +kernel
theorem dX8_would_78 : decode cX8_would 78 = .ok (.goto (-37), 3) := by decide +kernel
theorem dX8_would_81 : decode cX8_would 81 = .ok (.iconst (-1), 1) := by decide +kernel
theorem dX8_would_82 : decode cX8_would 82 = .ok (.ireturn, 1) := by decide +kernel
theorem dX8_auction_0 : decode cX8_auction 0 = .ok (.iload_n 1, 1) := by decide +kernel
theorem dX8_auction_1 : decode cX8_auction 1 = .ok (.iconst 0, 1) := by decide +kernel
theorem dX8_auction_2 : decode cX8_auction 2 = .ok (.bipush 6, 2) := by decide +kernel
theorem dX8_auction_4 : decode cX8_auction 4 = .ok (.invokestatic 109, 3) := by decide +kernel
theorem dX8_auction_7 : decode cX8_auction 7 = .ok (.ifCond .ne 14, 3) := by decide +kernel
theorem dX8_auction_10 : decode cX8_auction 10 = .ok (.new 53, 3) := by decide +kernel
theorem dX8_auction_13 : decode cX8_auction 13 = .ok (.dup, 1) := by decide +kernel
theorem dX8_auction_14 : decode cX8_auction 14 = .ok (.ldc_w 323, 3) := by decide +kernel
theorem dX8_auction_17 : decode cX8_auction 17 = .ok (.invokespecial 57, 3) := by decide +kernel
theorem dX8_auction_20 : decode cX8_auction 20 = .ok (.athrow, 1) := by decide +kernel
theorem dX8_auction_21 : decode cX8_auction 21 = .ok (.iload_n 1, 1) := by decide +kernel
theorem dX8_auction_22 : decode cX8_auction 22 = .ok (.lookupswitch 42 #[(0, 26), (1, 34)], 26) := by decide +kernel
theorem dX8_auction_48 : decode cX8_auction 48 = .ok (.aload_n 0, 1) := by decide +kernel
theorem dX8_auction_49 : decode cX8_auction 49 = .ok (.getfield 37, 3) := by decide +kernel
theorem dX8_auction_52 : decode cX8_auction 52 = .ok (.getfield 325, 3) := by decide +kernel
theorem dX8_auction_55 : decode cX8_auction 55 = .ok (.ireturn, 1) := by decide +kernel
theorem dX8_auction_56 : decode cX8_auction 56 = .ok (.aload_n 0, 1) := by decide +kernel
theorem dX8_auction_57 : decode cX8_auction 57 = .ok (.getfield 37, 3) := by decide +kernel
theorem dX8_auction_60 : decode cX8_auction 60 = .ok (.getfield 328, 3) := by decide +kernel
theorem dX8_auction_63 : decode cX8_auction 63 = .ok (.ireturn, 1) := by decide +kernel
theorem dX8_auction_64 : decode cX8_auction 64 = .ok (.aload_n 0, 1) := by decide +kernel
theorem dX8_auction_65 : decode cX8_auction 65 = .ok (.getfield 37, 3) := by decide +kernel
theorem dX8_auction_68 : decode cX8_auction 68 = .ok (.iload_n 1, 1) := by decide +kernel
theorem dX8_auction_69 : decode cX8_auction 69 = .ok (.iconst 2, 1) := by decide +kernel
theorem dX8_auction_70 : decode cX8_auction 70 = .ok (.isub, 1) := by decide +kernel
theorem dX8_auction_71 : decode cX8_auction 71 = .ok (.invokevirtual 331, 3) := by decide +kernel
theorem dX8_auction_74 : decode cX8_auction 74 = .ok (.ireturn, 1) := by decide +kernel
theorem dX8_cover_0 : decode cX8_cover 0 = .ok (.aload_n 0, 1) := by decide +kernel
theorem dX8_cover_1 : decode cX8_cover 1 = .ok (.getfield 10, 3) := by decide +kernel
theorem dX8_cover_4 : decode cX8_cover 4 = .ok (.invokevirtual 334, 3) := by decide +kernel
theorem dX8_cover_7 : decode cX8_cover 7 = .ok (.ireturn, 1) := by decide +kernel
theorem dX8_isSound_0 : decode cX8_isSound 0 = .ok (.iconst 0, 1) := by decide +kernel
theorem dX8_isSound_1 : decode cX8_isSound 1 = .ok (.istore_n 1, 1) := by decide +kernel
theorem dX8_isSound_2 : decode cX8_isSound 2 = .ok (.iconst 0, 1) := by decide +kernel
theorem dX8_isSound_3 : decode cX8_isSound 3 = .ok (.istore_n 2, 1) := by decide +kernel
theorem dX8_isSound_4 : decode cX8_isSound 4 = .ok (.iload_n 2, 1) := by decide +kernel
theorem dX8_isSound_5 : decode cX8_isSound 5 = .ok (.aload_n 0, 1) := by decide +kernel
theorem dX8_isSound_6 : decode cX8_isSound 6 = .ok (.getfield 10, 3) := by decide +kernel
theorem dX8_isSound_9 : decode cX8_isSound 9 = .ok (.getfield 60, 3) := by decide +kernel
theorem dX8_isSound_12 : decode cX8_isSound 12 = .ok (.if_icmp .ge 55, 3) := by decide +kernel
theorem dX8_isSound_15 : decode cX8_isSound 15 = .ok (.aload_n 0, 1) := by decide +kernel
theorem dX8_isSound_16 : decode cX8_isSound 16 = .ok (.getfield 10, 3) := by decide +kernel
theorem dX8_isSound_19 : decode cX8_isSound 19 = .ok (.getfield 96, 3) := by decide +kernel
theorem dX8_isSound_22 : decode cX8_isSound 22 = .ok (.iload_n 2, 1) := by decide +kernel
theorem dX8_isSound_23 : decode cX8_isSound 23 = .ok (.aaload, 1) := by decide +kernel
theorem dX8_isSound_24 : decode cX8_isSound 24 = .ok (.invokevirtual 337, 3) := by decide +kernel
theorem dX8_isSound_27 : decode cX8_isSound 27 = .ok (.ifCond .eq 14, 3) := by decide +kernel
theorem dX8_isSound_30 : decode cX8_isSound 30 = .ok (.aload_n 0, 1) := by decide +kernel
theorem dX8_isSound_31 : decode cX8_isSound 31 = .ok (.getfield 21, 3) := by decide +kernel
theorem dX8_isSound_34 : decode cX8_isSound 34 = .ok (.iload_n 2, 1) := by decide +kernel
theorem dX8_isSound_35 : decode cX8_isSound 35 = .ok (.invokevirtual 341, 3) := by decide +kernel
theorem dX8_isSound_38 : decode cX8_isSound 38 = .ok (.ifCond .ne 5, 3) := by decide +kernel
theorem dX8_isSound_41 : decode cX8_isSound 41 = .ok (.iconst 0, 1) := by decide +kernel
theorem dX8_isSound_42 : decode cX8_isSound 42 = .ok (.ireturn, 1) := by decide +kernel
theorem dX8_isSound_43 : decode cX8_isSound 43 = .ok (.iload_n 1, 1) := by decide +kernel
theorem dX8_isSound_44 : decode cX8_isSound 44 = .ok (.aload_n 0, 1) := by decide +kernel
theorem dX8_isSound_45 : decode cX8_isSound 45 = .ok (.getfield 10, 3) := by decide +kernel
theorem dX8_isSound_48 : decode cX8_isSound 48 = .ok (.getfield 96, 3) := by decide +kernel
theorem dX8_isSound_51 : decode cX8_isSound 51 = .ok (.iload_n 2, 1) := by decide +kernel
theorem dX8_isSound_52 : decode cX8_isSound 52 = .ok (.aaload, 1) := by decide +kernel
theorem dX8_isSound_53 : decode cX8_isSound 53 = .ok (.getfield 280, 3) := by decide +kernel
theorem dX8_isSound_56 : decode cX8_isSound 56 = .ok (.invokevirtual 344, 3) := by decide +kernel
theorem dX8_isSound_59 : decode cX8_isSound 59 = .ok (.iadd, 1) := by decide +kernel
theorem dX8_isSound_60 : decode cX8_isSound 60 = .ok (.istore_n 1, 1) := by decide +kernel
theorem dX8_isSound_61 : decode cX8_isSound 61 = .ok (.iinc 2 1, 3) := by decide +kernel
theorem dX8_isSound_64 : decode cX8_isSound 64 = .ok (.goto (-60), 3) := by decide +kernel
theorem dX8_isSound_67 : decode cX8_isSound 67 = .ok (.aload_n 0, 1) := by decide +kernel
theorem dX8_isSound_68 : decode cX8_isSound 68 = .ok (.getfield 30, 3) := by decide +kernel
theorem dX8_isSound_71 : decode cX8_isSound 71 = .ok (.getfield 252, 3) := by decide +kernel
theorem dX8_isSound_74 : decode cX8_isSound 74 = .ok (.iload_n 1, 1) := by decide +kernel
theorem dX8_isSound_75 : decode cX8_isSound 75 = .ok (.if_icmp .ne 26, 3) := by decide +kernel
theorem dX8_isSound_78 : decode cX8_isSound 78 = .ok (.aload_n 0, 1) := by decide +kernel
theorem dX8_isSound_79 : decode cX8_isSound 79 = .ok (.invokevirtual 346, 3) := by decide +kernel
theorem dX8_isSound_82 : decode cX8_isSound 82 = .ok (.dconst 1, 1) := by decide +kernel
theorem dX8_isSound_83 : decode cX8_isSound 83 = .ok (.dcmp .g, 1) := by decide +kernel
theorem dX8_isSound_84 : decode cX8_isSound 84 = .ok (.ifCond .gt 17, 3) := by decide +kernel
theorem dX8_isSound_87 : decode cX8_isSound 87 = .ok (.aload_n 0, 1) := by decide +kernel
theorem dX8_isSound_88 : decode cX8_isSound 88 = .ok (.getfield 37, 3) := by decide +kernel
theorem dX8_isSound_91 : decode cX8_isSound 91 = .ok (.invokevirtual 350, 3) := by decide +kernel
theorem dX8_isSound_94 : decode cX8_isSound 94 = .ok (.ifCond .eq 7, 3) := by decide +kernel
theorem dX8_isSound_97 : decode cX8_isSound 97 = .ok (.iconst 1, 1) := by decide +kernel
theorem dX8_isSound_98 : decode cX8_isSound 98 = .ok (.goto 4, 3) := by decide +kernel
theorem dX8_isSound_101 : decode cX8_isSound 101 = .ok (.iconst 0, 1) := by decide +kernel
theorem dX8_isSound_102 : decode cX8_isSound 102 = .ok (.ireturn, 1) := by decide +kernel
theorem dX8_digest_0 : decode cX8_digest 0 = .ok (.ldc2_w 353, 3) := by decide +kernel
theorem dX8_digest_3 : decode cX8_digest 3 = .ok (.lstore_n 1, 1) := by decide +kernel
theorem dX8_digest_4 : decode cX8_digest 4 = .ok (.iconst 0, 1) := by decide +kernel
theorem dX8_digest_5 : decode cX8_digest 5 = .ok (.istore_n 3, 1) := by decide +kernel
theorem dX8_digest_6 : decode cX8_digest 6 = .ok (.iload_n 3, 1) := by decide +kernel
theorem dX8_digest_7 : decode cX8_digest 7 = .ok (.bipush 12, 2) := by decide +kernel
theorem dX8_digest_9 : decode cX8_digest 9 = .ok (.if_icmp .gt 20, 3) := by decide +kernel
theorem dX8_digest_12 : decode cX8_digest 12 = .ok (.lload_n 1, 1) := by decide +kernel
theorem dX8_digest_13 : decode cX8_digest 13 = .ok (.aload_n 0, 1) := by decide +kernel
theorem dX8_digest_14 : decode cX8_digest 14 = .ok (.iload_n 3, 1) := by decide +kernel
theorem dX8_digest_15 : decode cX8_digest 15 = .ok (.invokevirtual 355, 3) := by decide +kernel
theorem dX8_digest_18 : decode cX8_digest 18 = .ok (.i2l, 1) := by decide +kernel
theorem dX8_digest_19 : decode cX8_digest 19 = .ok (.invokestatic 358, 3) := by decide +kernel
theorem dX8_digest_22 : decode cX8_digest 22 = .ok (.lstore_n 1, 1) := by decide +kernel
theorem dX8_digest_23 : decode cX8_digest 23 = .ok (.iinc 3 1, 3) := by decide +kernel
theorem dX8_digest_26 : decode cX8_digest 26 = .ok (.goto (-20), 3) := by decide +kernel
theorem dX8_digest_29 : decode cX8_digest 29 = .ok (.iconst 0, 1) := by decide +kernel
theorem dX8_digest_30 : decode cX8_digest 30 = .ok (.istore_n 3, 1) := by decide +kernel
theorem dX8_digest_31 : decode cX8_digest 31 = .ok (.iload_n 3, 1) := by decide +kernel
theorem dX8_digest_32 : decode cX8_digest 32 = .ok (.aload_n 0, 1) := by decide +kernel
theorem dX8_digest_33 : decode cX8_digest 33 = .ok (.getfield 10, 3) := by decide +kernel
theorem dX8_digest_36 : decode cX8_digest 36 = .ok (.getfield 60, 3) := by decide +kernel
theorem dX8_digest_39 : decode cX8_digest 39 = .ok (.if_icmp .ge 16, 3) := by decide +kernel
theorem dX8_digest_42 : decode cX8_digest 42 = .ok (.aload_n 0, 1) := by decide +kernel
theorem dX8_digest_43 : decode cX8_digest 43 = .ok (.lload_n 1, 1) := by decide +kernel
theorem dX8_digest_44 : decode cX8_digest 44 = .ok (.iload_n 3, 1) := by decide +kernel
theorem dX8_digest_45 : decode cX8_digest 45 = .ok (.invokevirtual 362, 3) := by decide +kernel
theorem dX8_digest_48 : decode cX8_digest 48 = .ok (.lstore_n 1, 1) := by decide +kernel
theorem dX8_digest_49 : decode cX8_digest 49 = .ok (.iinc 3 1, 3) := by decide +kernel
theorem dX8_digest_52 : decode cX8_digest 52 = .ok (.goto (-21), 3) := by decide +kernel
theorem dX8_digest_55 : decode cX8_digest 55 = .ok (.lload_n 1, 1) := by decide +kernel
theorem dX8_digest_56 : decode cX8_digest 56 = .ok (.ldc2_w 366, 3) := by decide +kernel
theorem dX8_digest_59 : decode cX8_digest 59 = .ok (.aload_n 0, 1) := by decide +kernel
theorem dX8_digest_60 : decode cX8_digest 60 = .ok (.invokevirtual 346, 3) := by decide +kernel
theorem dX8_digest_63 : decode cX8_digest 63 = .ok (.dmul, 1) := by decide +kernel
theorem dX8_digest_64 : decode cX8_digest 64 = .ok (.d2l, 1) := by decide +kernel
theorem dX8_digest_65 : decode cX8_digest 65 = .ok (.invokestatic 358, 3) := by decide +kernel
theorem dX8_digest_68 : decode cX8_digest 68 = .ok (.lstore_n 1, 1) := by decide +kernel
theorem dX8_digest_69 : decode cX8_digest 69 = .ok (.iconst 0, 1) := by decide +kernel
theorem dX8_digest_70 : decode cX8_digest 70 = .ok (.istore_n 3, 1) := by decide +kernel
theorem dX8_digest_71 : decode cX8_digest 71 = .ok (.iload_n 3, 1) := by decide +kernel
theorem dX8_digest_72 : decode cX8_digest 72 = .ok (.bipush 6, 2) := by decide +kernel
theorem dX8_digest_74 : decode cX8_digest 74 = .ok (.if_icmp .gt 20, 3) := by decide +kernel
theorem dX8_digest_77 : decode cX8_digest 77 = .ok (.lload_n 1, 1) := by decide +kernel
theorem dX8_digest_78 : decode cX8_digest 78 = .ok (.aload_n 0, 1) := by decide +kernel
theorem dX8_digest_79 : decode cX8_digest 79 = .ok (.iload_n 3, 1) := by decide +kernel
theorem dX8_digest_80 : decode cX8_digest 80 = .ok (.invokevirtual 368, 3) := by decide +kernel
theorem dX8_digest_83 : decode cX8_digest 83 = .ok (.i2l, 1) := by decide +kernel
theorem dX8_digest_84 : decode cX8_digest 84 = .ok (.invokestatic 358, 3) := by decide +kernel
theorem dX8_digest_87 : decode cX8_digest 87 = .ok (.lstore_n 1, 1) := by decide +kernel
theorem dX8_digest_88 : decode cX8_digest 88 = .ok (.iinc 3 1, 3) := by decide +kernel
theorem dX8_digest_91 : decode cX8_digest 91 = .ok (.goto (-20), 3) := by decide +kernel
theorem dX8_digest_94 : decode cX8_digest 94 = .ok (.lload_n 1, 1) := by decide +kernel
theorem dX8_digest_95 : decode cX8_digest 95 = .ok (.aload_n 0, 1) := by decide +kernel
theorem dX8_digest_96 : decode cX8_digest 96 = .ok (.invokevirtual 371, 3) := by decide +kernel
theorem dX8_digest_99 : decode cX8_digest 99 = .ok (.i2l, 1) := by decide +kernel
theorem dX8_digest_100 : decode cX8_digest 100 = .ok (.invokestatic 358, 3) := by decide +kernel
theorem dX8_digest_103 : decode cX8_digest 103 = .ok (.lstore_n 1, 1) := by decide +kernel
theorem dX8_digest_104 : decode cX8_digest 104 = .ok (.lload_n 1, 1) := by decide +kernel
theorem dX8_digest_105 : decode cX8_digest 105 = .ok (.aload_n 0, 1) := by decide +kernel
theorem dX8_digest_106 : decode cX8_digest 106 = .ok (.invokevirtual 374, 3) := by decide +kernel
theorem dX8_digest_109 : decode cX8_digest 109 = .ok (.ifCond .eq 7, 3) := by decide +kernel
theorem dX8_digest_112 : decode cX8_digest 112 = .ok (.lconst 1, 1) := by decide +kernel
theorem dX8_digest_113 : decode cX8_digest 113 = .ok (.goto 4, 3) := by decide +kernel
theorem dX8_digest_116 : decode cX8_digest 116 = .ok (.lconst 0, 1) := by decide +kernel
theorem dX8_digest_117 : decode cX8_digest 117 = .ok (.invokestatic 358, 3) := by decide +kernel
theorem dX8_digest_120 : decode cX8_digest 120 = .ok (.lreturn, 1) := by decide +kernel
theorem dX8_mixNode_0 : decode cX8_mixNode 0 = .ok (.lload_n 1, 1) := by decide +kernel
theorem dX8_mixNode_1 : decode cX8_mixNode 1 = .ok (.lstore 4, 2) := by decide +kernel
theorem dX8_mixNode_3 : decode cX8_mixNode 3 = .ok (.iconst 0, 1) := by decide +kernel
theorem dX8_mixNode_4 : decode cX8_mixNode 4 = .ok (.istore 6, 2) := by decide +kernel
theorem dX8_mixNode_6 : decode cX8_mixNode 6 = .ok (.iload 6, 2) := by decide +kernel
theorem dX8_mixNode_8 : decode cX8_mixNode 8 = .ok (.bipush 15, 2) := by decide +kernel
theorem dX8_mixNode_10 : decode cX8_mixNode 10 = .ok (.if_icmp .gt 24, 3) := by decide +kernel
theorem dX8_mixNode_13 : decode cX8_mixNode 13 = .ok (.lload 4, 2) := by decide +kernel
theorem dX8_mixNode_15 : decode cX8_mixNode 15 = .ok (.aload_n 0, 1) := by decide +kernel
theorem dX8_mixNode_16 : decode cX8_mixNode 16 = .ok (.iload_n 3, 1) := by decide +kernel
theorem dX8_mixNode_17 : decode cX8_mixNode 17 = .ok (.iload 6, 2) := by decide +kernel
theorem dX8_mixNode_19 : decode cX8_mixNode 19 = .ok (.invokevirtual 377, 3) := by decide +kernel
theorem dX8_mixNode_22 : decode cX8_mixNode 22 = .ok (.i2l, 1) := by decide +kernel
theorem dX8_mixNode_23 : decode cX8_mixNode 23 = .ok (.invokestatic 358, 3) := by decide +kernel
theorem dX8_mixNode_26 : decode cX8_mixNode 26 = .ok (.lstore 4, 2) := by decide +kernel
theorem dX8_mixNode_28 : decode cX8_mixNode 28 = .ok (.iinc 6 1, 3) := by decide +kernel
theorem dX8_mixNode_31 : decode cX8_mixNode 31 = .ok (.goto (-25), 3) := by decide +kernel
theorem dX8_mixNode_34 : decode cX8_mixNode 34 = .ok (.iconst 0, 1) := by decide +kernel
theorem dX8_mixNode_35 : decode cX8_mixNode 35 = .ok (.istore 6, 2) := by decide +kernel
theorem dX8_mixNode_37 : decode cX8_mixNode 37 = .ok (.iload 6, 2) := by decide +kernel
theorem dX8_mixNode_39 : decode cX8_mixNode 39 = .ok (.iconst 4, 1) := by decide +kernel
theorem dX8_mixNode_40 : decode cX8_mixNode 40 = .ok (.if_icmp .gt 25, 3) := by decide +kernel
theorem dX8_mixNode_43 : decode cX8_mixNode 43 = .ok (.lload 4, 2) := by decide +kernel
theorem dX8_mixNode_45 : decode cX8_mixNode 45 = .ok (.aload_n 0, 1) := by decide +kernel
theorem dX8_mixNode_46 : decode cX8_mixNode 46 = .ok (.iload_n 3, 1) := by decide +kernel
theorem dX8_mixNode_47 : decode cX8_mixNode 47 = .ok (.iconst 0, 1) := by decide +kernel
theorem dX8_mixNode_48 : decode cX8_mixNode 48 = .ok (.iload 6, 2) := by decide +kernel
theorem dX8_mixNode_50 : decode cX8_mixNode 50 = .ok (.invokevirtual 380, 3) := by decide +kernel
theorem dX8_mixNode_53 : decode cX8_mixNode 53 = .ok (.i2l, 1) := by decide +kernel
theorem dX8_mixNode_54 : decode cX8_mixNode 54 = .ok (.invokestatic 358, 3) := by decide +kernel
theorem dX8_mixNode_57 : decode cX8_mixNode 57 = .ok (.lstore 4, 2) := by decide +kernel
theorem dX8_mixNode_59 : decode cX8_mixNode 59 = .ok (.iinc 6 1, 3) := by decide +kernel
theorem dX8_mixNode_62 : decode cX8_mixNode 62 = .ok (.goto (-25), 3) := by decide +kernel
theorem dX8_mixNode_65 : decode cX8_mixNode 65 = .ok (.iconst 0, 1) := by decide +kernel
theorem dX8_mixNode_66 : decode cX8_mixNode 66 = .ok (.istore 6, 2) := by decide +kernel
theorem dX8_mixNode_68 : decode cX8_mixNode 68 = .ok (.iload 6, 2) := by decide +kernel
theorem dX8_mixNode_70 : decode cX8_mixNode 70 = .ok (.aload_n 0, 1) := by decide +kernel
theorem dX8_mixNode_71 : decode cX8_mixNode 71 = .ok (.getfield 10, 3) := by decide +kernel
theorem dX8_mixNode_74 : decode cX8_mixNode 74 = .ok (.getfield 60, 3) := by decide +kernel
theorem dX8_mixNode_77 : decode cX8_mixNode 77 = .ok (.if_icmp .ge 47, 3) := by decide +kernel
theorem dX8_mixNode_80 : decode cX8_mixNode 80 = .ok (.iconst 0, 1) := by decide +kernel
theorem dX8_mixNode_81 : decode cX8_mixNode 81 = .ok (.istore 7, 2) := by decide +kernel
theorem dX8_mixNode_83 : decode cX8_mixNode 83 = .ok (.iload 7, 2) := by decide +kernel
theorem dX8_mixNode_85 : decode cX8_mixNode 85 = .ok (.iconst 3, 1) := by decide +kernel
theorem dX8_mixNode_86 : decode cX8_mixNode 86 = .ok (.if_icmp .gt 32, 3) := by decide +kernel
theorem dX8_mixNode_89 : decode cX8_mixNode 89 = .ok (.iload 6, 2) := by decide +kernel
theorem dX8_mixNode_91 : decode cX8_mixNode 91 = .ok (.iload_n 3, 1) := by decide +kernel
theorem dX8_mixNode_92 : decode cX8_mixNode 92 = .ok (.if_icmp .eq 26, 3) := by decide +kernel
theorem dX8_mixNode_95 : decode cX8_mixNode 95 = .ok (.lload 4, 2) := by decide +kernel
theorem dX8_mixNode_97 : decode cX8_mixNode 97 = .ok (.aload_n 0, 1) := by decide +kernel
theorem dX8_mixNode_98 : decode cX8_mixNode 98 = .ok (.iload_n 3, 1) := by decide +kernel
theorem dX8_mixNode_99 : decode cX8_mixNode 99 = .ok (.iload 6, 2) := by decide +kernel
theorem dX8_mixNode_101 : decode cX8_mixNode 101 = .ok (.iload 7, 2) := by decide +kernel
theorem dX8_mixNode_103 : decode cX8_mixNode 103 = .ok (.invokevirtual 383, 3) := by decide +kernel
theorem dX8_mixNode_106 : decode cX8_mixNode 106 = .ok (.i2l, 1) := by decide +kernel
theorem dX8_mixNode_107 : decode cX8_mixNode 107 = .ok (.invokestatic 358, 3) := by decide +kernel
theorem dX8_mixNode_110 : decode cX8_mixNode 110 = .ok (.lstore 4, 2) := by decide +kernel
theorem dX8_mixNode_112 : decode cX8_mixNode 112 = .ok (.iinc 7 1, 3) := by decide +kernel
theorem dX8_mixNode_115 : decode cX8_mixNode 115 = .ok (.goto (-32), 3) := by decide +kernel
theorem dX8_mixNode_118 : decode cX8_mixNode 118 = .ok (.iinc 6 1, 3) := by decide +kernel
theorem dX8_mixNode_121 : decode cX8_mixNode 121 = .ok (.goto (-53), 3) := by decide +kernel
theorem dX8_mixNode_124 : decode cX8_mixNode 124 = .ok (.lload 4, 2) := by decide +kernel
theorem dX8_mixNode_126 : decode cX8_mixNode 126 = .ok (.lreturn, 1) := by decide +kernel
theorem dX8_mix_0 : decode cX8_mix 0 = .ok (.lload_n 0, 1) := by decide +kernel
theorem dX8_mix_1 : decode cX8_mix 1 = .ok (.ldc2_w 386, 3) := by decide +kernel
theorem dX8_mix_4 : decode cX8_mix 4 = .ok (.lmul, 1) := by decide +kernel
theorem dX8_mix_5 : decode cX8_mix 5 = .ok (.lload_n 2, 1) := by decide +kernel
theorem dX8_mix_6 : decode cX8_mix 6 = .ok (.ladd, 1) := by decide +kernel
theorem dX8_mix_7 : decode cX8_mix 7 = .ok (.lreturn, 1) := by decide +kernel
theorem dX8_checkNode_0 : decode cX8_checkNode 0 = .ok (.aload_n 0, 1) := by decide +kernel
theorem dX8_checkNode_1 : decode cX8_checkNode 1 = .ok (.getfield 10, 3) := by decide +kernel
theorem dX8_checkNode_4 : decode cX8_checkNode 4 = .ok (.iload_n 1, 1) := by decide +kernel
theorem dX8_checkNode_5 : decode cX8_checkNode 5 = .ok (.invokevirtual 388, 3) := by decide +kernel
theorem dX8_checkNode_8 : decode cX8_checkNode 8 = .ok (.ifCond .ne 14, 3) := by decide +kernel
theorem dX8_checkNode_11 : decode cX8_checkNode 11 = .ok (.new 275, 3) := by decide +kernel
theorem dX8_checkNode_14 : decode cX8_checkNode 14 = .ok (.dup, 1) := by decide +kernel
theorem dX8_checkNode_15 : decode cX8_checkNode 15 = .ok (.ldc_w 391, 3) := by decide +kernel
theorem dX8_checkNode_18 : decode cX8_checkNode 18 = .ok (.invokespecial 279, 3) := by decide +kernel
theorem dX8_checkNode_21 : decode cX8_checkNode 21 = .ok (.athrow, 1) := by decide +kernel
theorem dX8_checkNode_22 : decode cX8_checkNode 22 = .ok (.return_, 1) := by decide +kernel
theorem dX8_checkPair_0 : decode cX8_checkPair 0 = .ok (.aload_n 0, 1) := by decide +kernel
theorem dX8_checkPair_1 : decode cX8_checkPair 1 = .ok (.iload_n 1, 1) := by decide +kernel
theorem dX8_checkPair_2 : decode cX8_checkPair 2 = .ok (.invokevirtual 72, 3) := by decide +kernel
theorem dX8_checkPair_5 : decode cX8_checkPair 5 = .ok (.aload_n 0, 1) := by decide +kernel
theorem dX8_checkPair_6 : decode cX8_checkPair 6 = .ok (.iload_n 2, 1) := by decide +kernel
theorem dX8_checkPair_7 : decode cX8_checkPair 7 = .ok (.invokevirtual 72, 3) := by decide +kernel
theorem dX8_checkPair_10 : decode cX8_checkPair 10 = .ok (.iload_n 1, 1) := by decide +kernel
theorem dX8_checkPair_11 : decode cX8_checkPair 11 = .ok (.iload_n 2, 1) := by decide +kernel
theorem dX8_checkPair_12 : decode cX8_checkPair 12 = .ok (.if_icmp .ne 14, 3) := by decide +kernel
theorem dX8_checkPair_15 : decode cX8_checkPair 15 = .ok (.new 53, 3) := by decide +kernel
theorem dX8_checkPair_18 : decode cX8_checkPair 18 = .ok (.dup, 1) := by decide +kernel
theorem dX8_checkPair_19 : decode cX8_checkPair 19 = .ok (.ldc_w 393, 3) := by decide +kernel
theorem dX8_checkPair_22 : decode cX8_checkPair 22 = .ok (.invokespecial 57, 3) := by decide +kernel
theorem dX8_checkPair_25 : decode cX8_checkPair 25 = .ok (.athrow, 1) := by decide +kernel
theorem dX8_checkPair_26 : decode cX8_checkPair 26 = .ok (.return_, 1) := by decide +kernel
theorem dX8_checkSilent_0 : decode cX8_checkSilent 0 = .ok (.aload_n 0, 1) := by decide +kernel
theorem dX8_checkSilent_1 : decode cX8_checkSilent 1 = .ok (.getfield 10, 3) := by decide +kernel
theorem dX8_checkSilent_4 : decode cX8_checkSilent 4 = .ok (.getfield 96, 3) := by decide +kernel
theorem dX8_checkSilent_7 : decode cX8_checkSilent 7 = .ok (.iload_n 1, 1) := by decide +kernel
theorem dX8_checkSilent_8 : decode cX8_checkSilent 8 = .ok (.aaload, 1) := by decide +kernel
theorem dX8_checkSilent_9 : decode cX8_checkSilent 9 = .ok (.invokevirtual 395, 3) := by decide +kernel
theorem dX8_checkSilent_12 : decode cX8_checkSilent 12 = .ok (.ifCond .eq 14, 3) := by decide +kernel
theorem dX8_checkSilent_15 : decode cX8_checkSilent 15 = .ok (.new 63, 3) := by decide +kernel
theorem dX8_checkSilent_18 : decode cX8_checkSilent 18 = .ok (.dup, 1) := by decide +kernel
theorem dX8_checkSilent_19 : decode cX8_checkSilent 19 = .ok (.ldc_w 398, 3) := by decide +kernel
theorem dX8_checkSilent_22 : decode cX8_checkSilent 22 = .ok (.invokespecial 67, 3) := by decide +kernel
theorem dX8_checkSilent_25 : decode cX8_checkSilent 25 = .ok (.athrow, 1) := by decide +kernel
theorem dX8_checkSilent_26 : decode cX8_checkSilent 26 = .ok (.return_, 1) := by decide +kernel
theorem dX8_isWithin_0 : decode cX8_isWithin 0 = .ok (.iload_n 0, 1) := by decide +kernel
theorem dX8_isWithin_1 : decode cX8_isWithin 1 = .ok (.iload_n 1, 1) := by decide +kernel
theorem dX8_isWithin_2 : decode cX8_isWithin 2 = .ok (.if_icmp .lt 12, 3) := by decide +kernel
theorem dX8_isWithin_5 : decode cX8_isWithin 5 = .ok (.iload_n 0, 1) := by decide +kernel
theorem dX8_isWithin_6 : decode cX8_isWithin 6 = .ok (.iload_n 2, 1) := by decide +kernel
theorem dX8_isWithin_7 : decode cX8_isWithin 7 = .ok (.if_icmp .gt 7, 3) := by decide +kernel
theorem dX8_isWithin_10 : decode cX8_isWithin 10 = .ok (.iconst 1, 1) := by decide +kernel
theorem dX8_isWithin_11 : decode cX8_isWithin 11 = .ok (.goto 4, 3) := by decide +kernel
theorem dX8_isWithin_14 : decode cX8_isWithin 14 = .ok (.iconst 0, 1) := by decide +kernel
theorem dX8_isWithin_15 : decode cX8_isWithin 15 = .ok (.ireturn, 1) := by decide +kernel
theorem dX8_isPlace_0 : decode cX8_isPlace 0 = .ok (.iload_n 0, 1) := by decide +kernel
theorem dX8_isPlace_1 : decode cX8_isPlace 1 = .ok (.iconst 0, 1) := by decide +kernel
theorem dX8_isPlace_2 : decode cX8_isPlace 2 = .ok (.bipush 29, 2) := by decide +kernel
theorem dX8_isPlace_4 : decode cX8_isPlace 4 = .ok (.invokestatic 109, 3) := by decide +kernel
theorem dX8_isPlace_7 : decode cX8_isPlace 7 = .ok (.ifCond .eq 17, 3) := by decide +kernel
theorem dX8_isPlace_10 : decode cX8_isPlace 10 = .ok (.iload_n 1, 1) := by decide +kernel
theorem dX8_isPlace_11 : decode cX8_isPlace 11 = .ok (.iconst 0, 1) := by decide +kernel
theorem dX8_isPlace_12 : decode cX8_isPlace 12 = .ok (.bipush 29, 2) := by decide +kernel
theorem dX8_isPlace_14 : decode cX8_isPlace 14 = .ok (.invokestatic 109, 3) := by decide +kernel
theorem dX8_isPlace_17 : decode cX8_isPlace 17 = .ok (.ifCond .eq 7, 3) := by decide +kernel
theorem dX8_isPlace_20 : decode cX8_isPlace 20 = .ok (.iconst 1, 1) := by decide +kernel
theorem dX8_isPlace_21 : decode cX8_isPlace 21 = .ok (.goto 4, 3) := by decide +kernel
theorem dX8_isPlace_24 : decode cX8_isPlace 24 = .ok (.iconst 0, 1) := by decide +kernel
theorem dX8_isPlace_25 : decode cX8_isPlace 25 = .ok (.ireturn, 1) := by decide +kernel
theorem dX8_isReach_0 : decode cX8_isReach 0 = .ok (.iload_n 0, 1) := by decide +kernel
theorem dX8_isReach_1 : decode cX8_isReach 1 = .ok (.iconst 1, 1) := by decide +kernel
theorem dX8_isReach_2 : decode cX8_isReach 2 = .ok (.bipush 42, 2) := by decide +kernel
theorem dX8_isReach_4 : decode cX8_isReach 4 = .ok (.invokestatic 109, 3) := by decide +kernel
theorem dX8_isReach_7 : decode cX8_isReach 7 = .ok (.ireturn, 1) := by decide +kernel
theorem dX8_isIn_0 : decode cX8_isIn 0 = .ok (.iload_n 0, 1) := by decide +kernel
theorem dX8_isIn_1 : decode cX8_isIn 1 = .ok (.iload_n 1, 1) := by decide +kernel
theorem dX8_isIn_2 : decode cX8_isIn 2 = .ok (.ishr, 1) := by decide +kernel
theorem dX8_isIn_3 : decode cX8_isIn 3 = .ok (.iconst 1, 1) := by decide +kernel
theorem dX8_isIn_4 : decode cX8_isIn 4 = .ok (.iand, 1) := by decide +kernel
theorem dX8_isIn_5 : decode cX8_isIn 5 = .ok (.ifCond .eq 7, 3) := by decide +kernel
theorem dX8_isIn_8 : decode cX8_isIn 8 = .ok (.iconst 1, 1) := by decide +kernel
theorem dX8_isIn_9 : decode cX8_isIn 9 = .ok (.goto 4, 3) := by decide +kernel
theorem dX8_isIn_12 : decode cX8_isIn 12 = .ok (.iconst 0, 1) := by decide +kernel
theorem dX8_isIn_13 : decode cX8_isIn 13 = .ok (.ireturn, 1) := by decide +kernel
theorem dJ6_bitCount_0f7a4_0 : decode cJ6_bitCount_0f7a4 0 = .ok (.iload_n 0, 1) := by decide +kernel
theorem dJ6_bitCount_0f7a4_1 : decode cJ6_bitCount_0f7a4 1 = .ok (.iload_n 0, 1) := by decide +kernel
theorem dJ6_bitCount_0f7a4_2 : decode cJ6_bitCount_0f7a4 2 = .ok (.iconst 1, 1) := by decide +kernel
theorem dJ6_bitCount_0f7a4_3 : decode cJ6_bitCount_0f7a4 3 = .ok (.iushr, 1) := by decide +kernel
theorem dJ6_bitCount_0f7a4_4 : decode cJ6_bitCount_0f7a4 4 = .ok (.ldc_w 265, 3) := by decide +kernel
theorem dJ6_bitCount_0f7a4_7 : decode cJ6_bitCount_0f7a4 7 = .ok (.iand, 1) := by decide +kernel
theorem dJ6_bitCount_0f7a4_8 : decode cJ6_bitCount_0f7a4 8 = .ok (.isub, 1) := by decide +kernel
theorem dJ6_bitCount_0f7a4_9 : decode cJ6_bitCount_0f7a4 9 = .ok (.istore_n 0, 1) := by decide +kernel
theorem dJ6_bitCount_0f7a4_10 : decode cJ6_bitCount_0f7a4 10 = .ok (.iload_n 0, 1) := by decide +kernel
theorem dJ6_bitCount_0f7a4_11 : decode cJ6_bitCount_0f7a4 11 = .ok (.ldc_w 266, 3) := by decide +kernel
theorem dJ6_bitCount_0f7a4_14 : decode cJ6_bitCount_0f7a4 14 = .ok (.iand, 1) := by decide +kernel
theorem dJ6_bitCount_0f7a4_15 : decode cJ6_bitCount_0f7a4 15 = .ok (.iload_n 0, 1) := by decide +kernel
theorem dJ6_bitCount_0f7a4_16 : decode cJ6_bitCount_0f7a4 16 = .ok (.iconst 2, 1) := by decide +kernel
theorem dJ6_bitCount_0f7a4_17 : decode cJ6_bitCount_0f7a4 17 = .ok (.iushr, 1) := by decide +kernel
theorem dJ6_bitCount_0f7a4_18 : decode cJ6_bitCount_0f7a4 18 = .ok (.ldc_w 266, 3) := by decide +kernel
theorem dJ6_bitCount_0f7a4_21 : decode cJ6_bitCount_0f7a4 21 = .ok (.iand, 1) := by decide +kernel
theorem dJ6_bitCount_0f7a4_22 : decode cJ6_bitCount_0f7a4 22 = .ok (.iadd, 1) := by decide +kernel
theorem dJ6_bitCount_0f7a4_23 : decode cJ6_bitCount_0f7a4 23 = .ok (.istore_n 0, 1) := by decide +kernel
theorem dJ6_bitCount_0f7a4_24 : decode cJ6_bitCount_0f7a4 24 = .ok (.iload_n 0, 1) := by decide +kernel
theorem dJ6_bitCount_0f7a4_25 : decode cJ6_bitCount_0f7a4 25 = .ok (.iload_n 0, 1) := by decide +kernel
theorem dJ6_bitCount_0f7a4_26 : decode cJ6_bitCount_0f7a4 26 = .ok (.iconst 4, 1) := by decide +kernel
theorem dJ6_bitCount_0f7a4_27 : decode cJ6_bitCount_0f7a4 27 = .ok (.iushr, 1) := by decide +kernel
theorem dJ6_bitCount_0f7a4_28 : decode cJ6_bitCount_0f7a4 28 = .ok (.iadd, 1) := by decide +kernel
theorem dJ6_bitCount_0f7a4_29 : decode cJ6_bitCount_0f7a4 29 = .ok (.ldc_w 267, 3) := by decide +kernel
theorem dJ6_bitCount_0f7a4_32 : decode cJ6_bitCount_0f7a4 32 = .ok (.iand, 1) := by decide +kernel
theorem dJ6_bitCount_0f7a4_33 : decode cJ6_bitCount_0f7a4 33 = .ok (.istore_n 0, 1) := by decide +kernel
theorem dJ6_bitCount_0f7a4_34 : decode cJ6_bitCount_0f7a4 34 = .ok (.iload_n 0, 1) := by decide +kernel
theorem dJ6_bitCount_0f7a4_35 : decode cJ6_bitCount_0f7a4 35 = .ok (.iload_n 0, 1) := by decide +kernel
theorem dJ6_bitCount_0f7a4_36 : decode cJ6_bitCount_0f7a4 36 = .ok (.bipush 8, 2) := by decide +kernel
theorem dJ6_bitCount_0f7a4_38 : decode cJ6_bitCount_0f7a4 38 = .ok (.iushr, 1) := by decide +kernel
theorem dJ6_bitCount_0f7a4_39 : decode cJ6_bitCount_0f7a4 39 = .ok (.iadd, 1) := by decide +kernel
theorem dJ6_bitCount_0f7a4_40 : decode cJ6_bitCount_0f7a4 40 = .ok (.istore_n 0, 1) := by decide +kernel
theorem dJ6_bitCount_0f7a4_41 : decode cJ6_bitCount_0f7a4 41 = .ok (.iload_n 0, 1) := by decide +kernel
theorem dJ6_bitCount_0f7a4_42 : decode cJ6_bitCount_0f7a4 42 = .ok (.iload_n 0, 1) := by decide +kernel
theorem dJ6_bitCount_0f7a4_43 : decode cJ6_bitCount_0f7a4 43 = .ok (.bipush 16, 2) := by decide +kernel
theorem dJ6_bitCount_0f7a4_45 : decode cJ6_bitCount_0f7a4 45 = .ok (.iushr, 1) := by decide +kernel
theorem dJ6_bitCount_0f7a4_46 : decode cJ6_bitCount_0f7a4 46 = .ok (.iadd, 1) := by decide +kernel
theorem dJ6_bitCount_0f7a4_47 : decode cJ6_bitCount_0f7a4 47 = .ok (.istore_n 0, 1) := by decide +kernel
theorem dJ6_bitCount_0f7a4_48 : decode cJ6_bitCount_0f7a4 48 = .ok (.iload_n 0, 1) := by decide +kernel
theorem dJ6_bitCount_0f7a4_49 : decode cJ6_bitCount_0f7a4 49 = .ok (.bipush 63, 2) := by decide +kernel
theorem dJ6_bitCount_0f7a4_51 : decode cJ6_bitCount_0f7a4 51 = .ok (.iand, 1) := by decide +kernel
theorem dJ6_bitCount_0f7a4_52 : decode cJ6_bitCount_0f7a4 52 = .ok (.ireturn, 1) := by decide +kernel
theorem dJ13_bitCount_95d88_0 : decode cJ13_bitCount_95d88 0 = .ok (.lload_n 0, 1) := by decide +kernel
theorem dJ13_bitCount_95d88_1 : decode cJ13_bitCount_95d88 1 = .ok (.lload_n 0, 1) := by decide +kernel
theorem dJ13_bitCount_95d88_2 : decode cJ13_bitCount_95d88 2 = .ok (.iconst 1, 1) := by decide +kernel
theorem dJ13_bitCount_95d88_3 : decode cJ13_bitCount_95d88 3 = .ok (.lushr, 1) := by decide +kernel
theorem dJ13_bitCount_95d88_4 : decode cJ13_bitCount_95d88 4 = .ok (.ldc2_w 314, 3) := by decide +kernel
theorem dJ13_bitCount_95d88_7 : decode cJ13_bitCount_95d88 7 = .ok (.land, 1) := by decide +kernel
theorem dJ13_bitCount_95d88_8 : decode cJ13_bitCount_95d88 8 = .ok (.lsub, 1) := by decide +kernel
theorem dJ13_bitCount_95d88_9 : decode cJ13_bitCount_95d88 9 = .ok (.lstore_n 0, 1) := by decide +kernel
theorem dJ13_bitCount_95d88_10 : decode cJ13_bitCount_95d88 10 = .ok (.lload_n 0, 1) := by decide +kernel
theorem dJ13_bitCount_95d88_11 : decode cJ13_bitCount_95d88 11 = .ok (.ldc2_w 316, 3) := by decide +kernel
theorem dJ13_bitCount_95d88_14 : decode cJ13_bitCount_95d88 14 = .ok (.land, 1) := by decide +kernel
theorem dJ13_bitCount_95d88_15 : decode cJ13_bitCount_95d88 15 = .ok (.lload_n 0, 1) := by decide +kernel
theorem dJ13_bitCount_95d88_16 : decode cJ13_bitCount_95d88 16 = .ok (.iconst 2, 1) := by decide +kernel
theorem dJ13_bitCount_95d88_17 : decode cJ13_bitCount_95d88 17 = .ok (.lushr, 1) := by decide +kernel
theorem dJ13_bitCount_95d88_18 : decode cJ13_bitCount_95d88 18 = .ok (.ldc2_w 316, 3) := by decide +kernel
theorem dJ13_bitCount_95d88_21 : decode cJ13_bitCount_95d88 21 = .ok (.land, 1) := by decide +kernel
theorem dJ13_bitCount_95d88_22 : decode cJ13_bitCount_95d88 22 = .ok (.ladd, 1) := by decide +kernel
theorem dJ13_bitCount_95d88_23 : decode cJ13_bitCount_95d88 23 = .ok (.lstore_n 0, 1) := by decide +kernel
theorem dJ13_bitCount_95d88_24 : decode cJ13_bitCount_95d88 24 = .ok (.lload_n 0, 1) := by decide +kernel
theorem dJ13_bitCount_95d88_25 : decode cJ13_bitCount_95d88 25 = .ok (.lload_n 0, 1) := by decide +kernel
theorem dJ13_bitCount_95d88_26 : decode cJ13_bitCount_95d88 26 = .ok (.iconst 4, 1) := by decide +kernel
theorem dJ13_bitCount_95d88_27 : decode cJ13_bitCount_95d88 27 = .ok (.lushr, 1) := by decide +kernel
theorem dJ13_bitCount_95d88_28 : decode cJ13_bitCount_95d88 28 = .ok (.ladd, 1) := by decide +kernel
theorem dJ13_bitCount_95d88_29 : decode cJ13_bitCount_95d88 29 = .ok (.ldc2_w 318, 3) := by decide +kernel
theorem dJ13_bitCount_95d88_32 : decode cJ13_bitCount_95d88 32 = .ok (.land, 1) := by decide +kernel
theorem dJ13_bitCount_95d88_33 : decode cJ13_bitCount_95d88 33 = .ok (.lstore_n 0, 1) := by decide +kernel
theorem dJ13_bitCount_95d88_34 : decode cJ13_bitCount_95d88 34 = .ok (.lload_n 0, 1) := by decide +kernel
theorem dJ13_bitCount_95d88_35 : decode cJ13_bitCount_95d88 35 = .ok (.lload_n 0, 1) := by decide +kernel
theorem dJ13_bitCount_95d88_36 : decode cJ13_bitCount_95d88 36 = .ok (.bipush 8, 2) := by decide +kernel
theorem dJ13_bitCount_95d88_38 : decode cJ13_bitCount_95d88 38 = .ok (.lushr, 1) := by decide +kernel
theorem dJ13_bitCount_95d88_39 : decode cJ13_bitCount_95d88 39 = .ok (.ladd, 1) := by decide +kernel
theorem dJ13_bitCount_95d88_40 : decode cJ13_bitCount_95d88 40 = .ok (.lstore_n 0, 1) := by decide +kernel
theorem dJ13_bitCount_95d88_41 : decode cJ13_bitCount_95d88 41 = .ok (.lload_n 0, 1) := by decide +kernel
theorem dJ13_bitCount_95d88_42 : decode cJ13_bitCount_95d88 42 = .ok (.lload_n 0, 1) := by decide +kernel
theorem dJ13_bitCount_95d88_43 : decode cJ13_bitCount_95d88 43 = .ok (.bipush 16, 2) := by decide +kernel
theorem dJ13_bitCount_95d88_45 : decode cJ13_bitCount_95d88 45 = .ok (.lushr, 1) := by decide +kernel
theorem dJ13_bitCount_95d88_46 : decode cJ13_bitCount_95d88 46 = .ok (.ladd, 1) := by decide +kernel
theorem dJ13_bitCount_95d88_47 : decode cJ13_bitCount_95d88 47 = .ok (.lstore_n 0, 1) := by decide +kernel
theorem dJ13_bitCount_95d88_48 : decode cJ13_bitCount_95d88 48 = .ok (.lload_n 0, 1) := by decide +kernel
theorem dJ13_bitCount_95d88_49 : decode cJ13_bitCount_95d88 49 = .ok (.lload_n 0, 1) := by decide +kernel
theorem dJ13_bitCount_95d88_50 : decode cJ13_bitCount_95d88 50 = .ok (.bipush 32, 2) := by decide +kernel
theorem dJ13_bitCount_95d88_52 : decode cJ13_bitCount_95d88 52 = .ok (.lushr, 1) := by decide +kernel
theorem dJ13_bitCount_95d88_53 : decode cJ13_bitCount_95d88 53 = .ok (.ladd, 1) := by decide +kernel
theorem dJ13_bitCount_95d88_54 : decode cJ13_bitCount_95d88 54 = .ok (.lstore_n 0, 1) := by decide +kernel
theorem dJ13_bitCount_95d88_55 : decode cJ13_bitCount_95d88 55 = .ok (.lload_n 0, 1) := by decide +kernel
theorem dJ13_bitCount_95d88_56 : decode cJ13_bitCount_95d88 56 = .ok (.l2i, 1) := by decide +kernel
theorem dJ13_bitCount_95d88_57 : decode cJ13_bitCount_95d88 57 = .ok (.bipush 127, 2) := by decide +kernel
theorem dJ13_bitCount_95d88_59 : decode cJ13_bitCount_95d88 59 = .ok (.iand, 1) := by decide +kernel
theorem dJ13_bitCount_95d88_60 : decode cJ13_bitCount_95d88 60 = .ok (.ireturn, 1) := by decide +kernel
theorem dL_below_0 : decode cL_below 0 = .ok (.iload_n 0, 1) := by decide +kernel
theorem dL_below_1 : decode cL_below 1 = .ok (.ldc 7, 2) := by decide +kernel
theorem dL_below_3 : decode cL_below 3 = .ok (.iand, 1) := by decide +kernel
theorem dL_below_4 : decode cL_below 4 = .ok (.iload_n 1, 1) := by decide +kernel
theorem dL_below_5 : decode cL_below 5 = .ok (.irem, 1) := by decide +kernel
theorem dL_below_6 : decode cL_below 6 = .ok (.ireturn, 1) := by decide +kernel
theorem dL_cell_0 : decode cL_cell 0 = .ok (.iload_n 1, 1) := by decide +kernel
theorem dL_cell_1 : decode cL_cell 1 = .ok (.aload_n 0, 1) := by decide +kernel
theorem dL_cell_2 : decode cL_cell 2 = .ok (.arraylength, 1) := by decide +kernel
theorem dL_cell_3 : decode cL_cell 3 = .ok (.if_icmp .ge 9, 3) := by decide +kernel
theorem dL_cell_6 : decode cL_cell 6 = .ok (.aload_n 0, 1) := by decide +kernel
theorem dL_cell_7 : decode cL_cell 7 = .ok (.iload_n 1, 1) := by decide +kernel
theorem dL_cell_8 : decode cL_cell 8 = .ok (.iaload, 1) := by decide +kernel
theorem dL_cell_9 : decode cL_cell 9 = .ok (.goto 9, 3) := by decide +kernel
theorem dL_cell_12 : decode cL_cell 12 = .ok (.ldc 8, 2) := by decide +kernel
theorem dL_cell_14 : decode cL_cell 14 = .ok (.iload_n 1, 1) := by decide +kernel
theorem dL_cell_15 : decode cL_cell 15 = .ok (.iconst 3, 1) := by decide +kernel
theorem dL_cell_16 : decode cL_cell 16 = .ok (.iadd, 1) := by decide +kernel
theorem dL_cell_17 : decode cL_cell 17 = .ok (.imul, 1) := by decide +kernel
theorem dL_cell_18 : decode cL_cell 18 = .ok (.ireturn, 1) := by decide +kernel
theorem dL_law_0 : decode cL_law 0 = .ok (.new 9, 3) := by decide +kernel
theorem dL_law_3 : decode cL_law 3 = .ok (.dup, 1) := by decide +kernel
theorem dL_law_4 : decode cL_law 4 = .ok (.invokespecial 11, 3) := by decide +kernel
theorem dL_law_7 : decode cL_law 7 = .ok (.astore_n 1, 1) := by decide +kernel
theorem dL_law_8 : decode cL_law 8 = .ok (.iconst 3, 1) := by decide +kernel
theorem dL_law_9 : decode cL_law 9 = .ok (.aload_n 0, 1) := by decide +kernel
theorem dL_law_10 : decode cL_law 10 = .ok (.iconst 1, 1) := by decide +kernel
theorem dL_law_11 : decode cL_law 11 = .ok (.invokestatic 12, 3) := by decide +kernel
theorem dL_law_14 : decode cL_law 14 = .ok (.iconst 5, 1) := by decide +kernel
theorem dL_law_15 : decode cL_law 15 = .ok (.invokestatic 18, 3) := by decide +kernel
theorem dL_law_18 : decode cL_law 18 = .ok (.iadd, 1) := by decide +kernel
theorem dL_law_19 : decode cL_law 19 = .ok (.istore_n 2, 1) := by decide +kernel
theorem dL_law_20 : decode cL_law 20 = .ok (.iconst 0, 1) := by decide +kernel
theorem dL_law_21 : decode cL_law 21 = .ok (.istore_n 3, 1) := by decide +kernel
theorem dL_law_22 : decode cL_law 22 = .ok (.iload_n 3, 1) := by decide +kernel
theorem dL_law_23 : decode cL_law 23 = .ok (.iload_n 2, 1) := by decide +kernel
theorem dL_law_24 : decode cL_law 24 = .ok (.if_icmp .ge 71, 3) := by decide +kernel
theorem dL_law_27 : decode cL_law 27 = .ok (.aload_n 1, 1) := by decide +kernel
theorem dL_law_28 : decode cL_law 28 = .ok (.aload_n 0, 1) := by decide +kernel
theorem dL_law_29 : decode cL_law 29 = .ok (.iload_n 3, 1) := by decide +kernel
theorem dL_law_30 : decode cL_law 30 = .ok (.invokestatic 12, 3) := by decide +kernel
theorem dL_law_33 : decode cL_law 33 = .ok (.bipush 20, 2) := by decide +kernel
theorem dL_law_35 : decode cL_law 35 = .ok (.invokestatic 18, 3) := by decide +kernel
theorem dL_law_38 : decode cL_law 38 = .ok (.aload_n 0, 1) := by decide +kernel
theorem dL_law_39 : decode cL_law 39 = .ok (.iload_n 3, 1) := by decide +kernel
theorem dL_law_40 : decode cL_law 40 = .ok (.invokestatic 12, 3) := by decide +kernel
theorem dL_law_43 : decode cL_law 43 = .ok (.iconst 4, 1) := by decide +kernel
theorem dL_law_44 : decode cL_law 44 = .ok (.ishr, 1) := by decide +kernel
theorem dL_law_45 : decode cL_law 45 = .ok (.bipush 20, 2) := by decide +kernel
theorem dL_law_47 : decode cL_law 47 = .ok (.invokestatic 18, 3) := by decide +kernel
theorem dL_law_50 : decode cL_law 50 = .ok (.iconst 1, 1) := by decide +kernel
theorem dL_law_51 : decode cL_law 51 = .ok (.aload_n 0, 1) := by decide +kernel
theorem dL_law_52 : decode cL_law 52 = .ok (.iload_n 3, 1) := by decide +kernel
theorem dL_law_53 : decode cL_law 53 = .ok (.iconst 1, 1) := by decide +kernel
theorem dL_law_54 : decode cL_law 54 = .ok (.iadd, 1) := by decide +kernel
theorem dL_law_55 : decode cL_law 55 = .ok (.invokestatic 12, 3) := by decide +kernel
theorem dL_law_58 : decode cL_law 58 = .ok (.iconst 2, 1) := by decide +kernel
theorem dL_law_59 : decode cL_law 59 = .ok (.ishr, 1) := by decide +kernel
theorem dL_law_60 : decode cL_law 60 = .ok (.bipush 25, 2) := by decide +kernel
theorem dL_law_62 : decode cL_law 62 = .ok (.invokestatic 18, 3) := by decide +kernel
theorem dL_law_65 : decode cL_law 65 = .ok (.iadd, 1) := by decide +kernel
theorem dL_law_66 : decode cL_law 66 = .ok (.aload_n 0, 1) := by decide +kernel
theorem dL_law_67 : decode cL_law 67 = .ok (.iload_n 3, 1) := by decide +kernel
theorem dL_law_68 : decode cL_law 68 = .ok (.iconst 2, 1) := by decide +kernel
theorem dL_law_69 : decode cL_law 69 = .ok (.iadd, 1) := by decide +kernel
theorem dL_law_70 : decode cL_law 70 = .ok (.invokestatic 12, 3) := by decide +kernel
theorem dL_law_73 : decode cL_law 73 = .ok (.iconst 4, 1) := by decide +kernel
theorem dL_law_74 : decode cL_law 74 = .ok (.invokestatic 18, 3) := by decide +kernel
theorem dL_law_77 : decode cL_law 77 = .ok (.ifCond .ne 7, 3) := by decide +kernel
theorem dL_law_80 : decode cL_law 80 = .ok (.iconst 1, 1) := by decide +kernel
theorem dL_law_81 : decode cL_law 81 = .ok (.goto 4, 3) := by decide +kernel
theorem dL_law_84 : decode cL_law 84 = .ok (.iconst 0, 1) := by decide +kernel
theorem dL_law_85 : decode cL_law 85 = .ok (.invokevirtual 22, 3) := by decide +kernel
theorem dL_law_88 : decode cL_law 88 = .ok (.pop, 1) := by decide +kernel
theorem dL_law_89 : decode cL_law 89 = .ok (.iinc 3 1, 3) := by decide +kernel
theorem dL_law_92 : decode cL_law 92 = .ok (.goto (-70), 3) := by decide +kernel
theorem dL_law_95 : decode cL_law 95 = .ok (.aload_n 1, 1) := by decide +kernel
theorem dL_law_96 : decode cL_law 96 = .ok (.iconst 1, 1) := by decide +kernel
theorem dL_law_97 : decode cL_law 97 = .ok (.aload_n 0, 1) := by decide +kernel
theorem dL_law_98 : decode cL_law 98 = .ok (.iconst 3, 1) := by decide +kernel
theorem dL_law_99 : decode cL_law 99 = .ok (.invokestatic 12, 3) := by decide +kernel
theorem dL_law_102 : decode cL_law 102 = .ok (.bipush 8, 2) := by decide +kernel
theorem dL_law_104 : decode cL_law 104 = .ok (.invokestatic 18, 3) := by decide +kernel
theorem dL_law_107 : decode cL_law 107 = .ok (.iadd, 1) := by decide +kernel
theorem dL_law_108 : decode cL_law 108 = .ok (.invokevirtual 26, 3) := by decide +kernel
theorem dL_law_111 : decode cL_law 111 = .ok (.pop, 1) := by decide +kernel
theorem dL_law_112 : decode cL_law 112 = .ok (.iload_n 2, 1) := by decide +kernel
theorem dL_law_113 : decode cL_law 113 = .ok (.iconst 4, 1) := by decide +kernel
theorem dL_law_114 : decode cL_law 114 = .ok (.multianewarray 30 2, 4) := by decide +kernel
theorem dL_law_118 : decode cL_law 118 = .ok (.astore_n 3, 1) := by decide +kernel
theorem dL_law_119 : decode cL_law 119 = .ok (.iconst 0, 1) := by decide +kernel
theorem dL_law_120 : decode cL_law 120 = .ok (.istore 4, 2) := by decide +kernel
theorem dL_law_122 : decode cL_law 122 = .ok (.iconst 0, 1) := by decide +kernel
theorem dL_law_123 : decode cL_law 123 = .ok (.istore 5, 2) := by decide +kernel
theorem dL_law_125 : decode cL_law 125 = .ok (.iload 5, 2) := by decide +kernel
theorem dL_law_127 : decode cL_law 127 = .ok (.bipush 60, 2) := by decide +kernel
theorem dL_law_129 : decode cL_law 129 = .ok (.if_icmp .ge 157, 3) := by decide +kernel
theorem dL_law_132 : decode cL_law 132 = .ok (.aload_n 0, 1) := by decide +kernel
theorem dL_law_133 : decode cL_law 133 = .ok (.iload 5, 2) := by decide +kernel
theorem dL_law_135 : decode cL_law 135 = .ok (.bipush 16, 2) := by decide +kernel
theorem dL_law_137 : decode cL_law 137 = .ok (.irem, 1) := by decide +kernel
theorem dL_law_138 : decode cL_law 138 = .ok (.invokestatic 12, 3) := by decide +kernel
theorem dL_law_141 : decode cL_law 141 = .ok (.bipush 83, 2) := by decide +kernel
theorem dL_law_143 : decode cL_law 143 = .ok (.iload 5, 2) := by decide +kernel
theorem dL_law_145 : decode cL_law 145 = .ok (.imul, 1) := by decide +kernel
theorem dL_law_146 : decode cL_law 146 = .ok (.iadd, 1) := by decide +kernel
theorem dL_law_147 : decode cL_law 147 = .ok (.istore 6, 2) := by decide +kernel
theorem dL_law_149 : decode cL_law 149 = .ok (.aload_n 1, 1) := by decide +kernel
theorem dL_law_150 : decode cL_law 150 = .ok (.iload 6, 2) := by decide +kernel
theorem dL_law_152 : decode cL_law 152 = .ok (.iconst 2, 1) := by decide +kernel
theorem dL_law_153 : decode cL_law 153 = .ok (.ishr, 1) := by decide +kernel
theorem dL_law_154 : decode cL_law 154 = .ok (.iload 6, 2) := by decide +kernel
theorem dL_law_156 : decode cL_law 156 = .ok (.bipush 10, 2) := by decide +kernel
theorem dL_law_158 : decode cL_law 158 = .ok (.invokestatic 18, 3) := by decide +kernel
theorem dL_law_161 : decode cL_law 161 = .ok (.iload_n 2, 1) := by decide +kernel
theorem dL_law_162 : decode cL_law 162 = .ok (.invokestatic 32, 3) := by decide +kernel
theorem dL_law_165 : decode cL_law 165 = .ok (.iconst 0, 1) := by decide +kernel
theorem dL_law_166 : decode cL_law 166 = .ok (.istore 7, 2) := by decide +kernel
theorem dL_law_168 : decode cL_law 168 = .ok (.iload 7, 2) := by decide +kernel
theorem dL_law_170 : decode cL_law 170 = .ok (.iload_n 2, 1) := by decide +kernel
theorem dL_law_171 : decode cL_law 171 = .ok (.if_icmp .ge 60, 3) := by decide +kernel
theorem dL_law_174 : decode cL_law 174 = .ok (.iconst 0, 1) := by decide +kernel
theorem dL_law_175 : decode cL_law 175 = .ok (.istore 8, 2) := by decide +kernel
theorem dL_law_177 : decode cL_law 177 = .ok (.iload 8, 2) := by decide +kernel
theorem dL_law_179 : decode cL_law 179 = .ok (.iconst 4, 1) := by decide +kernel
theorem dL_law_180 : decode cL_law 180 = .ok (.if_icmp .ge 45, 3) := by decide +kernel
theorem dL_law_183 : decode cL_law 183 = .ok (.aload_n 1, 1) := by decide +kernel
theorem dL_law_184 : decode cL_law 184 = .ok (.iload 7, 2) := by decide +kernel
theorem dL_law_186 : decode cL_law 186 = .ok (.bipush 9, 2) := by decide +kernel
theorem dL_law_188 : decode cL_law 188 = .ok (.iload 8, 2) := by decide +kernel
theorem dL_law_190 : decode cL_law 190 = .ok (.iadd, 1) := by decide +kernel
theorem dL_law_191 : decode cL_law 191 = .ok (.invokevirtual 36, 3) := by decide +kernel
theorem dL_law_194 : decode cL_law 194 = .ok (.istore 9, 2) := by decide +kernel
theorem dL_law_196 : decode cL_law 196 = .ok (.iload 9, 2) := by decide +kernel
theorem dL_law_198 : decode cL_law 198 = .ok (.aload_n 3, 1) := by decide +kernel
theorem dL_law_199 : decode cL_law 199 = .ok (.iload 7, 2) := by decide +kernel
theorem dL_law_201 : decode cL_law 201 = .ok (.aaload, 1) := by decide +kernel
theorem dL_law_202 : decode cL_law 202 = .ok (.iload 8, 2) := by decide +kernel
theorem dL_law_204 : decode cL_law 204 = .ok (.iaload, 1) := by decide +kernel
theorem dL_law_205 : decode cL_law 205 = .ok (.if_icmp .ge 5, 3) := by decide +kernel
theorem dL_law_208 : decode cL_law 208 = .ok (.iconst 0, 1) := by decide +kernel
theorem dL_law_209 : decode cL_law 209 = .ok (.ireturn, 1) := by decide +kernel
theorem dL_law_210 : decode cL_law 210 = .ok (.aload_n 3, 1) := by decide +kernel
theorem dL_law_211 : decode cL_law 211 = .ok (.iload 7, 2) := by decide +kernel
theorem dL_law_213 : decode cL_law 213 = .ok (.aaload, 1) := by decide +kernel
theorem dL_law_214 : decode cL_law 214 = .ok (.iload 8, 2) := by decide +kernel
theorem dL_law_216 : decode cL_law 216 = .ok (.iload 9, 2) := by decide +kernel
theorem dL_law_218 : decode cL_law 218 = .ok (.iastore, 1) := by decide +kernel
theorem dL_law_219 : decode cL_law 219 = .ok (.iinc 8 1, 3) := by decide +kernel
theorem dL_law_222 : decode cL_law 222 = .ok (.goto (-45), 3) := by decide +kernel
theorem dL_law_225 : decode cL_law 225 = .ok (.iinc 7 1, 3) := by decide +kernel
theorem dL_law_228 : decode cL_law 228 = .ok (.goto (-60), 3) := by decide +kernel
theorem dL_law_231 : decode cL_law 231 = .ok (.aload_n 1, 1) := by decide +kernel
theorem dL_law_232 : decode cL_law 232 = .ok (.iconst 4, 1) := by decide +kernel
theorem dL_law_233 : decode cL_law 233 = .ok (.invokevirtual 39, 3) := by decide +kernel
theorem dL_law_236 : decode cL_law 236 = .ok (.iload 4, 2) := by decide +kernel
theorem dL_law_238 : decode cL_law 238 = .ok (.if_icmp .ge 5, 3) := by decide +kernel
theorem dL_law_241 : decode cL_law 241 = .ok (.iconst 0, 1) := by decide +kernel
theorem dL_law_242 : decode cL_law 242 = .ok (.ireturn, 1) := by decide +kernel
theorem dL_law_243 : decode cL_law 243 = .ok (.aload_n 1, 1) := by decide +kernel
theorem dL_law_244 : decode cL_law 244 = .ok (.iconst 4, 1) := by decide +kernel
theorem dL_law_245 : decode cL_law 245 = .ok (.invokevirtual 39, 3) := by decide +kernel
theorem dL_law_248 : decode cL_law 248 = .ok (.istore 4, 2) := by decide +kernel
theorem dL_law_250 : decode cL_law 250 = .ok (.iload 5, 2) := by decide +kernel
theorem dL_law_252 : decode cL_law 252 = .ok (.bipush 8, 2) := by decide +kernel
theorem dL_law_254 : decode cL_law 254 = .ok (.irem, 1) := by decide +kernel
theorem dL_law_255 : decode cL_law 255 = .ok (.bipush 7, 2) := by decide +kernel
theorem dL_law_257 : decode cL_law 257 = .ok (.if_icmp .ne 23, 3) := by decide +kernel
theorem dL_law_260 : decode cL_law 260 = .ok (.aload_n 1, 1) := by decide +kernel
theorem dL_law_261 : decode cL_law 261 = .ok (.iload_n 2, 1) := by decide +kernel
theorem dL_law_262 : decode cL_law 262 = .ok (.iload 6, 2) := by decide +kernel
theorem dL_law_264 : decode cL_law 264 = .ok (.iconst 3, 1) := by decide +kernel
theorem dL_law_265 : decode cL_law 265 = .ok (.ishr, 1) := by decide +kernel
theorem dL_law_266 : decode cL_law 266 = .ok (.iload_n 2, 1) := by decide +kernel
theorem dL_law_267 : decode cL_law 267 = .ok (.invokestatic 18, 3) := by decide +kernel
theorem dL_law_270 : decode cL_law 270 = .ok (.iload 6, 2) := by decide +kernel
theorem dL_law_272 : decode cL_law 272 = .ok (.invokestatic 42, 3) := by decide +kernel
theorem dL_law_275 : decode cL_law 275 = .ok (.ifCond .ne 5, 3) := by decide +kernel
theorem dL_law_278 : decode cL_law 278 = .ok (.iconst 0, 1) := by decide +kernel
theorem dL_law_279 : decode cL_law 279 = .ok (.ireturn, 1) := by decide +kernel
theorem dL_law_280 : decode cL_law 280 = .ok (.iinc 5 1, 3) := by decide +kernel
theorem dL_law_283 : decode cL_law 283 = .ok (.goto (-158), 3) := by decide +kernel
theorem dL_law_286 : decode cL_law 286 = .ok (.iconst 1, 1) := by decide +kernel
theorem dL_law_287 : decode cL_law 287 = .ok (.ireturn, 1) := by decide +kernel
theorem dL_act_0 : decode cL_act 0 = .ok (.iload_n 1, 1) := by decide +kernel
theorem dL_act_1 : decode cL_act 1 = .ok (.iload_n 3, 1) := by decide +kernel
theorem dL_act_2 : decode cL_act 2 = .ok (.invokestatic 18, 3) := by decide +kernel
theorem dL_act_5 : decode cL_act 5 = .ok (.istore 4, 2) := by decide +kernel
theorem dL_act_7 : decode cL_act 7 = .ok (.iload_n 2, 1) := by decide +kernel
theorem dL_act_8 : decode cL_act 8 = .ok (.tableswitch 199 0 7 #[48, 48, 48, 74, 100, 135, 150, 183], 48) := by decide +kernel
theorem dL_act_56 : decode cL_act 56 = .ok (.aload_n 0, 1) := by decide +kernel
theorem dL_act_57 : decode cL_act 57 = .ok (.iload 4, 2) := by decide +kernel
theorem dL_act_59 : decode cL_act 59 = .ok (.iload_n 1, 1) := by decide +kernel
theorem dL_act_60 : decode cL_act 60 = .ok (.iconst 3, 1) := by decide +kernel
theorem dL_act_61 : decode cL_act 61 = .ok (.ishr, 1) := by decide +kernel
theorem dL_act_62 : decode cL_act 62 = .ok (.iload_n 3, 1) := by decide +kernel
theorem dL_act_63 : decode cL_act 63 = .ok (.invokestatic 18, 3) := by decide +kernel
theorem dL_act_66 : decode cL_act 66 = .ok (.iconst 1, 1) := by decide +kernel
theorem dL_act_67 : decode cL_act 67 = .ok (.iload_n 1, 1) := by decide +kernel
theorem dL_act_68 : decode cL_act 68 = .ok (.iconst 5, 1) := by decide +kernel
theorem dL_act_69 : decode cL_act 69 = .ok (.ishr, 1) := by decide +kernel
theorem dL_act_70 : decode cL_act 70 = .ok (.iconst 3, 1) := by decide +kernel
theorem dL_act_71 : decode cL_act 71 = .ok (.invokestatic 18, 3) := by decide +kernel
theorem dL_act_74 : decode cL_act 74 = .ok (.iadd, 1) := by decide +kernel
theorem dL_act_75 : decode cL_act 75 = .ok (.invokevirtual 46, 3) := by decide +kernel
theorem dL_act_78 : decode cL_act 78 = .ok (.pop, 1) := by decide +kernel
theorem dL_act_79 : decode cL_act 79 = .ok (.goto 143, 3) := by decide +kernel
theorem dL_act_82 : decode cL_act 82 = .ok (.aload_n 0, 1) := by decide +kernel
theorem dL_act_83 : decode cL_act 83 = .ok (.iload 4, 2) := by decide +kernel
theorem dL_act_85 : decode cL_act 85 = .ok (.iload_n 1, 1) := by decide +kernel
theorem dL_act_86 : decode cL_act 86 = .ok (.iconst 2, 1) := by decide +kernel
theorem dL_act_87 : decode cL_act 87 = .ok (.ishr, 1) := by decide +kernel
theorem dL_act_88 : decode cL_act 88 = .ok (.bipush 20, 2) := by decide +kernel
theorem dL_act_90 : decode cL_act 90 = .ok (.invokestatic 18, 3) := by decide +kernel
theorem dL_act_93 : decode cL_act 93 = .ok (.iload_n 1, 1) := by decide +kernel
theorem dL_act_94 : decode cL_act 94 = .ok (.iconst 5, 1) := by decide +kernel
theorem dL_act_95 : decode cL_act 95 = .ok (.ishr, 1) := by decide +kernel
theorem dL_act_96 : decode cL_act 96 = .ok (.bipush 20, 2) := by decide +kernel
theorem dL_act_98 : decode cL_act 98 = .ok (.invokestatic 18, 3) := by decide +kernel
theorem dL_act_101 : decode cL_act 101 = .ok (.invokevirtual 50, 3) := by decide +kernel
theorem dL_act_104 : decode cL_act 104 = .ok (.pop, 1) := by decide +kernel
theorem dL_act_105 : decode cL_act 105 = .ok (.goto 117, 3) := by decide +kernel
theorem dL_act_108 : decode cL_act 108 = .ok (.aload_n 0, 1) := by decide +kernel
theorem dL_act_109 : decode cL_act 109 = .ok (.iload 4, 2) := by decide +kernel
theorem dL_act_111 : decode cL_act 111 = .ok (.iconst 1, 1) := by decide +kernel
theorem dL_act_112 : decode cL_act 112 = .ok (.iload_n 1, 1) := by decide +kernel
theorem dL_act_113 : decode cL_act 113 = .ok (.iconst 3, 1) := by decide +kernel
theorem dL_act_114 : decode cL_act 114 = .ok (.ishr, 1) := by decide +kernel
theorem dL_act_115 : decode cL_act 115 = .ok (.bipush 25, 2) := by decide +kernel
theorem dL_act_117 : decode cL_act 117 = .ok (.invokestatic 18, 3) := by decide +kernel
theorem dL_act_120 : decode cL_act 120 = .ok (.iadd, 1) := by decide +kernel
theorem dL_act_121 : decode cL_act 121 = .ok (.iload_n 1, 1) := by decide +kernel
theorem dL_act_122 : decode cL_act 122 = .ok (.iconst 5, 1) := by decide +kernel
theorem dL_act_123 : decode cL_act 123 = .ok (.ishr, 1) := by decide +kernel
theorem dL_act_124 : decode cL_act 124 = .ok (.iconst 3, 1) := by decide +kernel
theorem dL_act_125 : decode cL_act 125 = .ok (.invokestatic 18, 3) := by decide +kernel
theorem dL_act_128 : decode cL_act 128 = .ok (.ifCond .ne 7, 3) := by decide +kernel
theorem dL_act_131 : decode cL_act 131 = .ok (.iconst 1, 1) := by decide +kernel
theorem dL_act_132 : decode cL_act 132 = .ok (.goto 4, 3) := by decide +kernel
theorem dL_act_135 : decode cL_act 135 = .ok (.iconst 0, 1) := by decide +kernel
theorem dL_act_136 : decode cL_act 136 = .ok (.invokevirtual 53, 3) := by decide +kernel
theorem dL_act_139 : decode cL_act 139 = .ok (.pop, 1) := by decide +kernel
theorem dL_act_140 : decode cL_act 140 = .ok (.goto 82, 3) := by decide +kernel
theorem dL_act_143 : decode cL_act 143 = .ok (.aload_n 0, 1) := by decide +kernel
theorem dL_act_144 : decode cL_act 144 = .ok (.iconst 1, 1) := by decide +kernel
theorem dL_act_145 : decode cL_act 145 = .ok (.iload_n 1, 1) := by decide +kernel
theorem dL_act_146 : decode cL_act 146 = .ok (.iconst 3, 1) := by decide +kernel
theorem dL_act_147 : decode cL_act 147 = .ok (.invokestatic 18, 3) := by decide +kernel
theorem dL_act_150 : decode cL_act 150 = .ok (.iadd, 1) := by decide +kernel
theorem dL_act_151 : decode cL_act 151 = .ok (.invokevirtual 26, 3) := by decide +kernel
theorem dL_act_154 : decode cL_act 154 = .ok (.pop, 1) := by decide +kernel
theorem dL_act_155 : decode cL_act 155 = .ok (.goto 67, 3) := by decide +kernel
theorem dL_act_158 : decode cL_act 158 = .ok (.aload_n 0, 1) := by decide +kernel
theorem dL_act_159 : decode cL_act 159 = .ok (.iload_n 1, 1) := by decide +kernel
theorem dL_act_160 : decode cL_act 160 = .ok (.iconst 5, 1) := by decide +kernel
theorem dL_act_161 : decode cL_act 161 = .ok (.invokestatic 18, 3) := by decide +kernel
theorem dL_act_164 : decode cL_act 164 = .ok (.iconst 1, 1) := by decide +kernel
theorem dL_act_165 : decode cL_act 165 = .ok (.iload_n 1, 1) := by decide +kernel
theorem dL_act_166 : decode cL_act 166 = .ok (.iconst 2, 1) := by decide +kernel
theorem dL_act_167 : decode cL_act 167 = .ok (.ishr, 1) := by decide +kernel
theorem dL_act_168 : decode cL_act 168 = .ok (.bipush 63, 2) := by decide +kernel
theorem dL_act_170 : decode cL_act 170 = .ok (.invokestatic 18, 3) := by decide +kernel
theorem dL_act_173 : decode cL_act 173 = .ok (.iadd, 1) := by decide +kernel
theorem dL_act_174 : decode cL_act 174 = .ok (.iconst 1, 1) := by decide +kernel
theorem dL_act_175 : decode cL_act 175 = .ok (.iload_n 1, 1) := by decide +kernel
theorem dL_act_176 : decode cL_act 176 = .ok (.iconst 4, 1) := by decide +kernel
theorem dL_act_177 : decode cL_act 177 = .ok (.ishr, 1) := by decide +kernel
theorem dL_act_178 : decode cL_act 178 = .ok (.bipush 99, 2) := by decide +kernel
theorem dL_act_180 : decode cL_act 180 = .ok (.invokestatic 18, 3) := by decide +kernel
theorem dL_act_183 : decode cL_act 183 = .ok (.iadd, 1) := by decide +kernel
theorem dL_act_184 : decode cL_act 184 = .ok (.invokevirtual 57, 3) := by decide +kernel
theorem dL_act_187 : decode cL_act 187 = .ok (.pop, 1) := by decide +kernel
theorem dL_act_188 : decode cL_act 188 = .ok (.goto 34, 3) := by decide +kernel
theorem dL_act_191 : decode cL_act 191 = .ok (.iload_n 1, 1) := by decide +kernel
theorem dL_act_192 : decode cL_act 192 = .ok (.iconst 5, 1) := by decide +kernel
theorem dL_act_193 : decode cL_act 193 = .ok (.invokestatic 18, 3) := by decide +kernel
theorem dL_act_196 : decode cL_act 196 = .ok (.ifCond .ne 26, 3) := by decide +kernel
theorem dL_act_199 : decode cL_act 199 = .ok (.aload_n 0, 1) := by decide +kernel
theorem dL_act_200 : decode cL_act 200 = .ok (.invokevirtual 60, 3) := by decide +kernel
theorem dL_act_203 : decode cL_act 203 = .ok (.pop, 1) := by decide +kernel
theorem dL_act_204 : decode cL_act 204 = .ok (.goto 18, 3) := by decide +kernel
theorem dL_act_207 : decode cL_act 207 = .ok (.aload_n 0, 1) := by decide +kernel
theorem dL_act_208 : decode cL_act 208 = .ok (.iconst 1, 1) := by decide +kernel
theorem dL_act_209 : decode cL_act 209 = .ok (.iload_n 1, 1) := by decide +kernel
theorem dL_act_210 : decode cL_act 210 = .ok (.iconst 3, 1) := by decide +kernel
theorem dL_act_211 : decode cL_act 211 = .ok (.ishr, 1) := by decide +kernel
theorem dL_act_212 : decode cL_act 212 = .ok (.bipush 12, 2) := by decide +kernel
theorem dL_act_214 : decode cL_act 214 = .ok (.invokestatic 18, 3) := by decide +kernel
theorem dL_act_217 : decode cL_act 217 = .ok (.iadd, 1) := by decide +kernel
theorem dL_act_218 : decode cL_act 218 = .ok (.invokevirtual 64, 3) := by decide +kernel
theorem dL_act_221 : decode cL_act 221 = .ok (.pop, 1) := by decide +kernel
theorem dL_act_222 : decode cL_act 222 = .ok (.goto 12, 3) := by decide +kernel
theorem dL_act_225 : decode cL_act 225 = .ok (.astore 5, 2) := by decide +kernel
theorem dL_act_227 : decode cL_act 227 = .ok (.return_, 1) := by decide +kernel
theorem dL_act_228 : decode cL_act 228 = .ok (.astore 5, 2) := by decide +kernel
theorem dL_act_230 : decode cL_act 230 = .ok (.return_, 1) := by decide +kernel
theorem dL_act_231 : decode cL_act 231 = .ok (.astore 5, 2) := by decide +kernel
theorem dL_act_233 : decode cL_act 233 = .ok (.return_, 1) := by decide +kernel
theorem dL_act_234 : decode cL_act 234 = .ok (.return_, 1) := by decide +kernel
theorem dL_isAsked_0 : decode cL_isAsked 0 = .ok (.aload_n 0, 1) := by decide +kernel
theorem dL_isAsked_1 : decode cL_isAsked 1 = .ok (.invokevirtual 73, 3) := by decide +kernel
theorem dL_isAsked_4 : decode cL_isAsked 4 = .ok (.lstore 4, 2) := by decide +kernel
theorem dL_isAsked_6 : decode cL_isAsked 6 = .ok (.aload_n 0, 1) := by decide +kernel
theorem dL_isAsked_7 : decode cL_isAsked 7 = .ok (.invokevirtual 77, 3) := by decide +kernel
theorem dL_isAsked_10 : decode cL_isAsked 10 = .ok (.ifCond .eq 12, 3) := by decide +kernel
theorem dL_isAsked_13 : decode cL_isAsked 13 = .ok (.aload_n 0, 1) := by decide +kernel
theorem dL_isAsked_14 : decode cL_isAsked 14 = .ok (.invokevirtual 81, 3) := by decide +kernel
theorem dL_isAsked_17 : decode cL_isAsked 17 = .ok (.dconst 1, 1) := by decide +kernel
theorem dL_isAsked_18 : decode cL_isAsked 18 = .ok (.dcmp .l, 1) := by decide +kernel
theorem dL_isAsked_19 : decode cL_isAsked 19 = .ok (.ifCond .le 5, 3) := by decide +kernel
theorem dL_isAsked_22 : decode cL_isAsked 22 = .ok (.iconst 0, 1) := by decide +kernel
theorem dL_isAsked_23 : decode cL_isAsked 23 = .ok (.ireturn, 1) := by decide +kernel
theorem dL_isAsked_24 : decode cL_isAsked 24 = .ok (.iconst 0, 1) := by decide +kernel
theorem dL_isAsked_25 : decode cL_isAsked 25 = .ok (.istore 6, 2) := by decide +kernel
theorem dL_isAsked_27 : decode cL_isAsked 27 = .ok (.iconst 0, 1) := by decide +kernel
theorem dL_isAsked_28 : decode cL_isAsked 28 = .ok (.istore 7, 2) := by decide +kernel
theorem dL_isAsked_30 : decode cL_isAsked 30 = .ok (.iload 7, 2) := by decide +kernel
theorem dL_isAsked_32 : decode cL_isAsked 32 = .ok (.iload_n 1, 1) := by decide +kernel
theorem dL_isAsked_33 : decode cL_isAsked 33 = .ok (.if_icmp .ge 174, 3) := by decide +kernel
theorem dL_isAsked_36 : decode cL_isAsked 36 = .ok (.iconst 0, 1) := by decide +kernel
theorem dL_isAsked_37 : decode cL_isAsked 37 = .ok (.istore 8, 2) := by decide +kernel
theorem dL_isAsked_39 : decode cL_isAsked 39 = .ok (.iload 8, 2) := by decide +kernel
theorem dL_isAsked_41 : decode cL_isAsked 41 = .ok (.aload_n 0, 1) := by decide +kernel
theorem dL_isAsked_42 : decode cL_isAsked 42 = .ok (.iload 7, 2) := by decide +kernel
theorem dL_isAsked_44 : decode cL_isAsked 44 = .ok (.bipush 15, 2) := by decide +kernel
theorem dL_isAsked_46 : decode cL_isAsked 46 = .ok (.invokevirtual 36, 3) := by decide +kernel
theorem dL_isAsked_49 : decode cL_isAsked 49 = .ok (.if_icmp .ge 30, 3) := by decide +kernel
theorem dL_isAsked_52 : decode cL_isAsked 52 = .ok (.iload 6, 2) := by decide +kernel
theorem dL_isAsked_54 : decode cL_isAsked 54 = .ok (.aload_n 0, 1) := by decide +kernel
theorem dL_isAsked_55 : decode cL_isAsked 55 = .ok (.iload 7, 2) := by decide +kernel
theorem dL_isAsked_57 : decode cL_isAsked 57 = .ok (.iload 8, 2) := by decide +kernel
theorem dL_isAsked_59 : decode cL_isAsked 59 = .ok (.invokevirtual 85, 3) := by decide +kernel
theorem dL_isAsked_62 : decode cL_isAsked 62 = .ok (.ifCond .eq 7, 3) := by decide +kernel
theorem dL_isAsked_65 : decode cL_isAsked 65 = .ok (.iconst 1, 1) := by decide +kernel
theorem dL_isAsked_66 : decode cL_isAsked 66 = .ok (.goto 4, 3) := by decide +kernel
theorem dL_isAsked_69 : decode cL_isAsked 69 = .ok (.iconst 0, 1) := by decide +kernel
theorem dL_isAsked_70 : decode cL_isAsked 70 = .ok (.iadd, 1) := by decide +kernel
theorem dL_isAsked_71 : decode cL_isAsked 71 = .ok (.istore 6, 2) := by decide +kernel
theorem dL_isAsked_73 : decode cL_isAsked 73 = .ok (.iinc 8 1, 3) := by decide +kernel
theorem dL_isAsked_76 : decode cL_isAsked 76 = .ok (.goto (-37), 3) := by decide +kernel
theorem dL_isAsked_79 : decode cL_isAsked 79 = .ok (.iload 7, 2) := by decide +kernel
theorem dL_isAsked_81 : decode cL_isAsked 81 = .ok (.iload_n 2, 1) := by decide +kernel
theorem dL_isAsked_82 : decode cL_isAsked 82 = .ok (.if_icmp .eq 99, 3) := by decide +kernel
theorem dL_isAsked_85 : decode cL_isAsked 85 = .ok (.aload_n 0, 1) := by decide +kernel
theorem dL_isAsked_86 : decode cL_isAsked 86 = .ok (.iload 7, 2) := by decide +kernel
theorem dL_isAsked_88 : decode cL_isAsked 88 = .ok (.bipush 14, 2) := by decide +kernel
theorem dL_isAsked_90 : decode cL_isAsked 90 = .ok (.invokevirtual 36, 3) := by decide +kernel
theorem dL_isAsked_93 : decode cL_isAsked 93 = .ok (.iload_n 2, 1) := by decide +kernel
theorem dL_isAsked_94 : decode cL_isAsked 94 = .ok (.ishr, 1) := by decide +kernel
theorem dL_isAsked_95 : decode cL_isAsked 95 = .ok (.iconst 1, 1) := by decide +kernel
theorem dL_isAsked_96 : decode cL_isAsked 96 = .ok (.iand, 1) := by decide +kernel
theorem dL_isAsked_97 : decode cL_isAsked 97 = .ok (.iconst 1, 1) := by decide +kernel
theorem dL_isAsked_98 : decode cL_isAsked 98 = .ok (.if_icmp .ne 7, 3) := by decide +kernel
theorem dL_isAsked_101 : decode cL_isAsked 101 = .ok (.iconst 1, 1) := by decide +kernel
theorem dL_isAsked_102 : decode cL_isAsked 102 = .ok (.goto 4, 3) := by decide +kernel
theorem dL_isAsked_105 : decode cL_isAsked 105 = .ok (.iconst 0, 1) := by decide +kernel
theorem dL_isAsked_106 : decode cL_isAsked 106 = .ok (.aload_n 0, 1) := by decide +kernel
theorem dL_isAsked_107 : decode cL_isAsked 107 = .ok (.iload_n 2, 1) := by decide +kernel
theorem dL_isAsked_108 : decode cL_isAsked 108 = .ok (.bipush 14, 2) := by decide +kernel
theorem dL_isAsked_110 : decode cL_isAsked 110 = .ok (.invokevirtual 36, 3) := by decide +kernel
theorem dL_isAsked_113 : decode cL_isAsked 113 = .ok (.iload 7, 2) := by decide +kernel
theorem dL_isAsked_115 : decode cL_isAsked 115 = .ok (.ishr, 1) := by decide +kernel
theorem dL_isAsked_116 : decode cL_isAsked 116 = .ok (.iconst 1, 1) := by decide +kernel
theorem dL_isAsked_117 : decode cL_isAsked 117 = .ok (.iand, 1) := by decide +kernel
theorem dL_isAsked_118 : decode cL_isAsked 118 = .ok (.iconst 1, 1) := by decide +kernel
theorem dL_isAsked_119 : decode cL_isAsked 119 = .ok (.if_icmp .ne 7, 3) := by decide +kernel
theorem dL_isAsked_122 : decode cL_isAsked 122 = .ok (.iconst 1, 1) := by decide +kernel
theorem dL_isAsked_123 : decode cL_isAsked 123 = .ok (.goto 4, 3) := by decide +kernel
theorem dL_isAsked_126 : decode cL_isAsked 126 = .ok (.iconst 0, 1) := by decide +kernel
theorem dL_isAsked_127 : decode cL_isAsked 127 = .ok (.if_icmp .ne 52, 3) := by decide +kernel
theorem dL_isAsked_130 : decode cL_isAsked 130 = .ok (.aload_n 0, 1) := by decide +kernel
theorem dL_isAsked_131 : decode cL_isAsked 131 = .ok (.iload 7, 2) := by decide +kernel
theorem dL_isAsked_133 : decode cL_isAsked 133 = .ok (.bipush 14, 2) := by decide +kernel
theorem dL_isAsked_135 : decode cL_isAsked 135 = .ok (.invokevirtual 36, 3) := by decide +kernel
theorem dL_isAsked_138 : decode cL_isAsked 138 = .ok (.iload_n 2, 1) := by decide +kernel
theorem dL_isAsked_139 : decode cL_isAsked 139 = .ok (.ishr, 1) := by decide +kernel
theorem dL_isAsked_140 : decode cL_isAsked 140 = .ok (.iconst 1, 1) := by decide +kernel
theorem dL_isAsked_141 : decode cL_isAsked 141 = .ok (.iand, 1) := by decide +kernel
theorem dL_isAsked_142 : decode cL_isAsked 142 = .ok (.iconst 1, 1) := by decide +kernel
theorem dL_isAsked_143 : decode cL_isAsked 143 = .ok (.if_icmp .ne 7, 3) := by decide +kernel
theorem dL_isAsked_146 : decode cL_isAsked 146 = .ok (.iconst 1, 1) := by decide +kernel
theorem dL_isAsked_147 : decode cL_isAsked 147 = .ok (.goto 4, 3) := by decide +kernel
theorem dL_isAsked_150 : decode cL_isAsked 150 = .ok (.iconst 0, 1) := by decide +kernel
theorem dL_isAsked_151 : decode cL_isAsked 151 = .ok (.aload_n 0, 1) := by decide +kernel
theorem dL_isAsked_152 : decode cL_isAsked 152 = .ok (.iload 7, 2) := by decide +kernel
theorem dL_isAsked_154 : decode cL_isAsked 154 = .ok (.iload_n 2, 1) := by decide +kernel
theorem dL_isAsked_155 : decode cL_isAsked 155 = .ok (.invokevirtual 89, 3) := by decide +kernel
theorem dL_isAsked_158 : decode cL_isAsked 158 = .ok (.ifCond .eq 17, 3) := by decide +kernel
theorem dL_isAsked_161 : decode cL_isAsked 161 = .ok (.aload_n 0, 1) := by decide +kernel
theorem dL_isAsked_162 : decode cL_isAsked 162 = .ok (.iload_n 2, 1) := by decide +kernel
theorem dL_isAsked_163 : decode cL_isAsked 163 = .ok (.iload 7, 2) := by decide +kernel
theorem dL_isAsked_165 : decode cL_isAsked 165 = .ok (.invokevirtual 89, 3) := by decide +kernel
theorem dL_isAsked_168 : decode cL_isAsked 168 = .ok (.ifCond .eq 7, 3) := by decide +kernel
theorem dL_isAsked_171 : decode cL_isAsked 171 = .ok (.iconst 1, 1) := by decide +kernel
theorem dL_isAsked_172 : decode cL_isAsked 172 = .ok (.goto 4, 3) := by decide +kernel
theorem dL_isAsked_175 : decode cL_isAsked 175 = .ok (.iconst 0, 1) := by decide +kernel
theorem dL_isAsked_176 : decode cL_isAsked 176 = .ok (.if_icmp .eq 5, 3) := by decide +kernel
theorem dL_isAsked_179 : decode cL_isAsked 179 = .ok (.iconst 0, 1) := by decide +kernel
theorem dL_isAsked_180 : decode cL_isAsked 180 = .ok (.ireturn, 1) := by decide +kernel
theorem dL_isAsked_181 : decode cL_isAsked 181 = .ok (.iload 7, 2) := by decide +kernel
theorem dL_isAsked_183 : decode cL_isAsked 183 = .ok (.iload_n 2, 1) := by decide +kernel
theorem dL_isAsked_184 : decode cL_isAsked 184 = .ok (.if_icmp .eq 17, 3) := by decide +kernel
theorem dL_isAsked_187 : decode cL_isAsked 187 = .ok (.aload_n 0, 1) := by decide +kernel
theorem dL_isAsked_188 : decode cL_isAsked 188 = .ok (.iload_n 2, 1) := by decide +kernel
theorem dL_isAsked_189 : decode cL_isAsked 189 = .ok (.iload 7, 2) := by decide +kernel
theorem dL_isAsked_191 : decode cL_isAsked 191 = .ok (.iconst 2, 1) := by decide +kernel
theorem dL_isAsked_192 : decode cL_isAsked 192 = .ok (.invokevirtual 92, 3) := by decide +kernel
theorem dL_isAsked_195 : decode cL_isAsked 195 = .ok (.iload_n 1, 1) := by decide +kernel
theorem dL_isAsked_196 : decode cL_isAsked 196 = .ok (.if_icmp .le 5, 3) := by decide +kernel
theorem dL_isAsked_199 : decode cL_isAsked 199 = .ok (.iconst 0, 1) := by decide +kernel
theorem dL_isAsked_200 : decode cL_isAsked 200 = .ok (.ireturn, 1) := by decide +kernel
theorem dL_isAsked_201 : decode cL_isAsked 201 = .ok (.iinc 7 1, 3) := by decide +kernel
theorem dL_isAsked_204 : decode cL_isAsked 204 = .ok (.goto (-174), 3) := by decide +kernel
theorem dL_isAsked_207 : decode cL_isAsked 207 = .ok (.iload_n 3, 1) := by decide +kernel
theorem dL_isAsked_208 : decode cL_isAsked 208 = .ok (.iconst 2, 1) := by decide +kernel
theorem dL_isAsked_209 : decode cL_isAsked 209 = .ok (.ishr, 1) := by decide +kernel
theorem dL_isAsked_210 : decode cL_isAsked 210 = .ok (.iconst 1, 1) := by decide +kernel
theorem dL_isAsked_211 : decode cL_isAsked 211 = .ok (.iload_n 1, 1) := by decide +kernel
theorem dL_isAsked_212 : decode cL_isAsked 212 = .ok (.ishl, 1) := by decide +kernel
theorem dL_isAsked_213 : decode cL_isAsked 213 = .ok (.invokestatic 18, 3) := by decide +kernel
theorem dL_isAsked_216 : decode cL_isAsked 216 = .ok (.iconst 1, 1) := by decide +kernel
theorem dL_isAsked_217 : decode cL_isAsked 217 = .ok (.iload_n 2, 1) := by decide +kernel
theorem dL_isAsked_218 : decode cL_isAsked 218 = .ok (.ishl, 1) := by decide +kernel
theorem dL_isAsked_219 : decode cL_isAsked 219 = .ok (.iconst (-1), 1) := by decide +kernel
theorem dL_isAsked_220 : decode cL_isAsked 220 = .ok (.ixor, 1) := by decide +kernel
theorem dL_isAsked_221 : decode cL_isAsked 221 = .ok (.iand, 1) := by decide +kernel
theorem dL_isAsked_222 : decode cL_isAsked 222 = .ok (.istore 7, 2) := by decide +kernel
theorem dL_isAsked_224 : decode cL_isAsked 224 = .ok (.aload_n 0, 1) := by decide +kernel
theorem dL_isAsked_225 : decode cL_isAsked 225 = .ok (.iload 7, 2) := by decide +kernel
theorem dL_isAsked_227 : decode cL_isAsked 227 = .ok (.iload_n 2, 1) := by decide +kernel
theorem dL_isAsked_228 : decode cL_isAsked 228 = .ok (.invokevirtual 95, 3) := by decide +kernel
theorem dL_isAsked_231 : decode cL_isAsked 231 = .ok (.istore 8, 2) := by decide +kernel
theorem dL_isAsked_233 : decode cL_isAsked 233 = .ok (.iload 8, 2) := by decide +kernel
theorem dL_isAsked_235 : decode cL_isAsked 235 = .ok (.ifCond .lt 25, 3) := by decide +kernel
theorem dL_isAsked_238 : decode cL_isAsked 238 = .ok (.iload 7, 2) := by decide +kernel
theorem dL_isAsked_240 : decode cL_isAsked 240 = .ok (.iload 8, 2) := by decide +kernel
theorem dL_isAsked_242 : decode cL_isAsked 242 = .ok (.ishr, 1) := by decide +kernel
theorem dL_isAsked_243 : decode cL_isAsked 243 = .ok (.iconst 1, 1) := by decide +kernel
theorem dL_isAsked_244 : decode cL_isAsked 244 = .ok (.iand, 1) := by decide +kernel
theorem dL_isAsked_245 : decode cL_isAsked 245 = .ok (.ifCond .eq 13, 3) := by decide +kernel
theorem dL_isAsked_248 : decode cL_isAsked 248 = .ok (.aload_n 0, 1) := by decide +kernel
theorem dL_isAsked_249 : decode cL_isAsked 249 = .ok (.iload_n 2, 1) := by decide +kernel
theorem dL_isAsked_250 : decode cL_isAsked 250 = .ok (.iload 8, 2) := by decide +kernel
theorem dL_isAsked_252 : decode cL_isAsked 252 = .ok (.invokevirtual 89, 3) := by decide +kernel
theorem dL_isAsked_255 : decode cL_isAsked 255 = .ok (.ifCond .ne 5, 3) := by decide +kernel
theorem dL_isAsked_258 : decode cL_isAsked 258 = .ok (.iconst 0, 1) := by decide +kernel
theorem dL_isAsked_259 : decode cL_isAsked 259 = .ok (.ireturn, 1) := by decide +kernel
theorem dL_isAsked_260 : decode cL_isAsked 260 = .ok (.iconst 0, 1) := by decide +kernel
theorem dL_isAsked_261 : decode cL_isAsked 261 = .ok (.istore 9, 2) := by decide +kernel
theorem dL_isAsked_263 : decode cL_isAsked 263 = .ok (.iconst 2, 1) := by decide +kernel
theorem dL_isAsked_264 : decode cL_isAsked 264 = .ok (.istore 10, 2) := by decide +kernel
theorem dL_isAsked_266 : decode cL_isAsked 266 = .ok (.iload 10, 2) := by decide +kernel
theorem dL_isAsked_268 : decode cL_isAsked 268 = .ok (.bipush 7, 2) := by decide +kernel
theorem dL_isAsked_270 : decode cL_isAsked 270 = .ok (.if_icmp .ge 20, 3) := by decide +kernel
theorem dL_isAsked_273 : decode cL_isAsked 273 = .ok (.iload 9, 2) := by decide +kernel
theorem dL_isAsked_275 : decode cL_isAsked 275 = .ok (.aload_n 0, 1) := by decide +kernel
theorem dL_isAsked_276 : decode cL_isAsked 276 = .ok (.iload 10, 2) := by decide +kernel
theorem dL_isAsked_278 : decode cL_isAsked 278 = .ok (.invokevirtual 98, 3) := by decide +kernel
theorem dL_isAsked_281 : decode cL_isAsked 281 = .ok (.iadd, 1) := by decide +kernel
theorem dL_isAsked_282 : decode cL_isAsked 282 = .ok (.istore 9, 2) := by decide +kernel
theorem dL_isAsked_284 : decode cL_isAsked 284 = .ok (.iinc 10 1, 3) := by decide +kernel
theorem dL_isAsked_287 : decode cL_isAsked 287 = .ok (.goto (-21), 3) := by decide +kernel
theorem dL_isAsked_290 : decode cL_isAsked 290 = .ok (.aload_n 0, 1) := by decide +kernel
theorem dL_isAsked_291 : decode cL_isAsked 291 = .ok (.invokevirtual 101, 3) := by decide +kernel
theorem dL_isAsked_294 : decode cL_isAsked 294 = .ok (.istore 10, 2) := by decide +kernel
theorem dL_isAsked_296 : decode cL_isAsked 296 = .ok (.iload 6, 2) := by decide +kernel
theorem dL_isAsked_298 : decode cL_isAsked 298 = .ok (.aload_n 0, 1) := by decide +kernel
theorem dL_isAsked_299 : decode cL_isAsked 299 = .ok (.iconst 4, 1) := by decide +kernel
theorem dL_isAsked_300 : decode cL_isAsked 300 = .ok (.invokevirtual 39, 3) := by decide +kernel
theorem dL_isAsked_303 : decode cL_isAsked 303 = .ok (.if_icmp .ne 40, 3) := by decide +kernel
theorem dL_isAsked_306 : decode cL_isAsked 306 = .ok (.iload 9, 2) := by decide +kernel
theorem dL_isAsked_308 : decode cL_isAsked 308 = .ok (.aload_n 0, 1) := by decide +kernel
theorem dL_isAsked_309 : decode cL_isAsked 309 = .ok (.iconst 1, 1) := by decide +kernel
theorem dL_isAsked_310 : decode cL_isAsked 310 = .ok (.invokevirtual 98, 3) := by decide +kernel
theorem dL_isAsked_313 : decode cL_isAsked 313 = .ok (.if_icmp .gt 30, 3) := by decide +kernel
theorem dL_isAsked_316 : decode cL_isAsked 316 = .ok (.iload 10, 2) := by decide +kernel
theorem dL_isAsked_318 : decode cL_isAsked 318 = .ok (.ifCond .le 25, 3) := by decide +kernel
theorem dL_isAsked_321 : decode cL_isAsked 321 = .ok (.iload 10, 2) := by decide +kernel
theorem dL_isAsked_323 : decode cL_isAsked 323 = .ok (.iconst 1, 1) := by decide +kernel
theorem dL_isAsked_324 : decode cL_isAsked 324 = .ok (.iload_n 1, 1) := by decide +kernel
theorem dL_isAsked_325 : decode cL_isAsked 325 = .ok (.ishl, 1) := by decide +kernel
theorem dL_isAsked_326 : decode cL_isAsked 326 = .ok (.if_icmp .ge 17, 3) := by decide +kernel
theorem dL_isAsked_329 : decode cL_isAsked 329 = .ok (.aload_n 0, 1) := by decide +kernel
theorem dL_isAsked_330 : decode cL_isAsked 330 = .ok (.invokevirtual 73, 3) := by decide +kernel
theorem dL_isAsked_333 : decode cL_isAsked 333 = .ok (.lload 4, 2) := by decide +kernel
theorem dL_isAsked_335 : decode cL_isAsked 335 = .ok (.lcmp, 1) := by decide +kernel
theorem dL_isAsked_336 : decode cL_isAsked 336 = .ok (.ifCond .ne 7, 3) := by decide +kernel
theorem dL_isAsked_339 : decode cL_isAsked 339 = .ok (.iconst 1, 1) := by decide +kernel
theorem dL_isAsked_340 : decode cL_isAsked 340 = .ok (.goto 4, 3) := by decide +kernel
theorem dL_isAsked_343 : decode cL_isAsked 343 = .ok (.iconst 0, 1) := by decide +kernel
theorem dL_isAsked_344 : decode cL_isAsked 344 = .ok (.ireturn, 1) := by decide +kernel
abbrev vwCl : List vw_C := [(RX0, TX0, 5), (RX1, TX1, 2), (RX2, TX2, 3), (RX3, TX3, 9), (RX4, TX4, 16), (RX5, TX5, 1), (RX6, TX6, 6), (RX7, TX7, 7), (RX8, TX8, 5)]
end
section
/-! THE SMALL MACHINE M: values, a heap of functions, frames, handlers, the least predicate closed under the steps -/
/-- a value: an int, a reference (none: null; some id), a long, a double -/
abbrev MV : Type := Int32 ⊕ (Option Nat ⊕ (Int64 ⊕ UInt64))
/-- the heap: ints, references, longs, doubles by id and slot; the kind and the length by id; the next id; the slots laid so far -/
def Hp : Type := (Nat → Nat → Int32) × (Nat → Nat → Option Nat) × (Nat → Nat → Int64) × (Nat → Nat → UInt64) × (Nat → Nat) × (Nat → Nat) × Nat × Nat
def gI (h : Hp) (a k : Nat) : Int32 := h.1 a k
def gR (h : Hp) (a k : Nat) : Option Nat := h.2.1 a k
def gL (h : Hp) (a k : Nat) : Int64 := h.2.2.1 a k
def gD (h : Hp) (a k : Nat) : UInt64 := h.2.2.2.1 a k
def kd (h : Hp) (a : Nat) : Nat := h.2.2.2.2.1 a
def ln (h : Hp) (a : Nat) : Nat := h.2.2.2.2.2.1 a
def nx (h : Hp) : Nat := h.2.2.2.2.2.2.1
def sc (h : Hp) : Nat := h.2.2.2.2.2.2.2
def up2 {α : Type} (f : Nat → Nat → α) (a k : Nat) (v : α) : Nat → Nat → α := fun b j => if b = a ∧ j = k then v else f b j
def up1 {α : Type} (f : Nat → α) (a : Nat) (v : α) : Nat → α := fun b => if b = a then v else f b
def row0 {α : Type} (f : Nat → Nat → α) (a : Nat) (v : α) : Nat → Nat → α := fun b j => if b = a then v else f b j
def sI (h : Hp) (a k : Nat) (v : Int32) : Hp := (up2 h.1 a k v, h.2)
def sR (h : Hp) (a k : Nat) (v : Option Nat) : Hp := (h.1, up2 h.2.1 a k v, h.2.2)
def sL (h : Hp) (a k : Nat) (v : Int64) : Hp := (h.1, h.2.1, up2 h.2.2.1 a k v, h.2.2.2)
def sD (h : Hp) (a k : Nat) (v : UInt64) : Hp := (h.1, h.2.1, h.2.2.1, up2 h.2.2.2.1 a k v, h.2.2.2.2)
/-- a new object or array: kind c, length n, all its slots empty -/
def hN (h : Hp) (c n s : Nat) : Hp := (row0 h.1 (nx h) 0, row0 h.2.1 (nx h) none, row0 h.2.2.1 (nx h) 0, row0 h.2.2.2.1 (nx h) 0, up1 h.2.2.2.2.1 (nx h) c, up1 h.2.2.2.2.2.1 (nx h) n, nx h + 1, sc h + s)
theorem gI_sI (h : Hp) (a k b j : Nat) (v : Int32) : gI (sI h a k v) b j = if b = a ∧ j = k then v else gI h b j := rfl
theorem gI_sR (h : Hp) (a k b j : Nat) (v : Option Nat) : gI (sR h a k v) b j = gI h b j := rfl
theorem gI_sL (h : Hp) (a k b j : Nat) (v : Int64) : gI (sL h a k v) b j = gI h b j := rfl
theorem gI_sD (h : Hp) (a k b j : Nat) (v : UInt64) : gI (sD h a k v) b j = gI h b j := rfl
theorem gR_sI (h : Hp) (a k b j : Nat) (v : Int32) : gR (sI h a k v) b j = gR h b j := rfl
theorem gR_sR (h : Hp) (a k b j : Nat) (v : Option Nat) : gR (sR h a k v) b j = if b = a ∧ j = k then v else gR h b j := rfl
theorem gR_sL (h : Hp) (a k b j : Nat) (v : Int64) : gR (sL h a k v) b j = gR h b j := rfl
theorem gR_sD (h : Hp) (a k b j : Nat) (v : UInt64) : gR (sD h a k v) b j = gR h b j := rfl
theorem gL_sI (h : Hp) (a k b j : Nat) (v : Int32) : gL (sI h a k v) b j = gL h b j := rfl
theorem gL_sR (h : Hp) (a k b j : Nat) (v : Option Nat) : gL (sR h a k v) b j = gL h b j := rfl
theorem gL_sL (h : Hp) (a k b j : Nat) (v : Int64) : gL (sL h a k v) b j = if b = a ∧ j = k then v else gL h b j := rfl
theorem gL_sD (h : Hp) (a k b j : Nat) (v : UInt64) : gL (sD h a k v) b j = gL h b j := rfl
theorem gD_sI (h : Hp) (a k b j : Nat) (v : Int32) : gD (sI h a k v) b j = gD h b j := rfl
theorem gD_sR (h : Hp) (a k b j : Nat) (v : Option Nat) : gD (sR h a k v) b j = gD h b j := rfl
theorem gD_sL (h : Hp) (a k b j : Nat) (v : Int64) : gD (sL h a k v) b j = gD h b j := rfl
theorem gD_sD (h : Hp) (a k b j : Nat) (v : UInt64) : gD (sD h a k v) b j = if b = a ∧ j = k then v else gD h b j := rfl
theorem kd_sI (h : Hp) (a k b : Nat) (v : Int32) : kd (sI h a k v) b = kd h b := rfl
theorem kd_sR (h : Hp) (a k b : Nat) (v : Option Nat) : kd (sR h a k v) b = kd h b := rfl
theorem kd_sL (h : Hp) (a k b : Nat) (v : Int64) : kd (sL h a k v) b = kd h b := rfl
theorem kd_sD (h : Hp) (a k b : Nat) (v : UInt64) : kd (sD h a k v) b = kd h b := rfl
theorem ln_sI (h : Hp) (a k b : Nat) (v : Int32) : ln (sI h a k v) b = ln h b := rfl
theorem ln_sR (h : Hp) (a k b : Nat) (v : Option Nat) : ln (sR h a k v) b = ln h b := rfl
theorem ln_sL (h : Hp) (a k b : Nat) (v : Int64) : ln (sL h a k v) b = ln h b := rfl
theorem ln_sD (h : Hp) (a k b : Nat) (v : UInt64) : ln (sD h a k v) b = ln h b := rfl
theorem nx_sI (h : Hp) (a k : Nat) (v : Int32) : nx (sI h a k v) = nx h := rfl
theorem nx_sR (h : Hp) (a k : Nat) (v : Option Nat) : nx (sR h a k v) = nx h := rfl
theorem nx_sL (h : Hp) (a k : Nat) (v : Int64) : nx (sL h a k v) = nx h := rfl
theorem nx_sD (h : Hp) (a k : Nat) (v : UInt64) : nx (sD h a k v) = nx h := rfl
theorem sc_sI (h : Hp) (a k : Nat) (v : Int32) : sc (sI h a k v) = sc h := rfl
theorem sc_sR (h : Hp) (a k : Nat) (v : Option Nat) : sc (sR h a k v) = sc h := rfl
theorem sc_sL (h : Hp) (a k : Nat) (v : Int64) : sc (sL h a k v) = sc h := rfl
theorem sc_sD (h : Hp) (a k : Nat) (v : UInt64) : sc (sD h a k v) = sc h := rfl
theorem gI_hN (h : Hp) (c n s b j : Nat) : gI (hN h c n s) b j = if b = nx h then 0 else gI h b j := rfl
theorem gR_hN (h : Hp) (c n s b j : Nat) : gR (hN h c n s) b j = if b = nx h then none else gR h b j := rfl
theorem gL_hN (h : Hp) (c n s b j : Nat) : gL (hN h c n s) b j = if b = nx h then 0 else gL h b j := rfl
theorem gD_hN (h : Hp) (c n s b j : Nat) : gD (hN h c n s) b j = if b = nx h then 0 else gD h b j := rfl
theorem kd_hN (h : Hp) (c n s b : Nat) : kd (hN h c n s) b = if b = nx h then c else kd h b := rfl
theorem ln_hN (h : Hp) (c n s b : Nat) : ln (hN h c n s) b = if b = nx h then n else ln h b := rfl
theorem nx_hN (h : Hp) (c n s : Nat) : nx (hN h c n s) = nx h + 1 := rfl
theorem sc_hN (h : Hp) (c n s : Nat) : sc (hN h c n s) = sc h + s := rfl
/-- a live id of kind c -/
def isK (h : Hp) (a c : Nat) : Bool := decide (a < nx h) && decide (kd h a = c)
/-- an index in an array's length -/
def inL (h : Hp) (a : Nat) (i : Int32) : Bool := decide (0 ≤ i) && decide (i.toNatClampNeg < ln h a)
theorem isK_sI (h : Hp) (a k b c : Nat) (v : Int32) : isK (sI h a k v) b c = isK h b c := rfl
theorem isK_sR (h : Hp) (a k b c : Nat) (v : Option Nat) : isK (sR h a k v) b c = isK h b c := rfl
theorem isK_sL (h : Hp) (a k b c : Nat) (v : Int64) : isK (sL h a k v) b c = isK h b c := rfl
theorem isK_sD (h : Hp) (a k b c : Nat) (v : UInt64) : isK (sD h a k v) b c = isK h b c := rfl
theorem inL_sI (h : Hp) (a k b : Nat) (v i : Int32) : inL (sI h a k v) b i = inL h b i := rfl
theorem inL_sR (h : Hp) (a k b : Nat) (v : Option Nat) (i : Int32) : inL (sR h a k v) b i = inL h b i := rfl
theorem inL_sL (h : Hp) (a k b : Nat) (v : Int64) (i : Int32) : inL (sL h a k v) b i = inL h b i := rfl
theorem inL_sD (h : Hp) (a k b : Nat) (v : UInt64) (i : Int32) : inL (sD h a k v) b i = inL h b i := rfl
/-- locals: a place is unknown (none) or holds a value -/
abbrev Lo : Type := List (Option MV)
abbrev Sk : Type := List MV
/-- how a method ends: an answer (none: void), or the code of an exception -/
abbrev MRes : Type := Option MV ⊕ Nat
/-- what an instruction does: on to (pc, locals, stack, heap); a call (method, arguments, pc behind it, locals, stack below, heap); an end -/
abbrev Nd : Type := Option ((Nat × Lo × Sk × Hp) ⊕ ((Nat × List MV × Nat × Lo × Sk × Hp) ⊕ (MRes × Hp)))
abbrev Hd : Type := Lo → Sk → Hp → Nd
def isWide : MV → Bool
  | .inr (.inr _) => true
  | _ => false
/-- a place that a store of place k breaks: a wide value one below it -/
def lKill (ls : Lo) (k : Nat) : Lo := match k with
  | 0 => ls
  | j + 1 => match ls[j]? with
    | some (some v) => if isWide v = true then ls.set j none else ls
    | _ => ls
def lSet1 (ls : Lo) (k : Nat) (v : Option MV) : Lo := (lKill ls k).set k v
def lSet2 (ls : Lo) (k : Nat) (v : MV) : Lo := ((lKill ls k).set k (some v)).set (k + 1) none
/-- the locals at a method's entry -/
def eArgs : List MV → Lo
  | [] => []
  | v :: vs => match v with
    | .inr (.inr w) => some (.inr (.inr w)) :: none :: eArgs vs
    | w => some w :: eArgs vs
def entL (as : List MV) (n : Nat) : Lo := eArgs as ++ List.replicate (n - (eArgs as).length) none
def catV (v : MV) : Nat := if isWide v = true then 2 else 1
def catS : List MV → Nat
  | [] => 0
  | v :: vs => catV v + catS vs
/-- from which (method, pc) what is done; where a call's exception is taken up: the pc behind the handler's store, and the place that it takes -/
abbrev Pg : Type := (Nat → Nat → Hd) × (Nat → Nat) × (Nat → Nat → Nat → Option (Nat × Nat))
abbrev Jd : Type := Nat → Nat → Lo → Sk → Hp → (MRes → Hp → Prop) → Prop
def ndX (G : Pg) (X : Jd) (j pc : Nat) (nd : Nd) (Q : MRes → Hp → Prop) : Prop := match nd with
  | none => False
  | some (.inl (pc', ls', st', h')) => X j pc' ls' st' h' Q
  | some (.inr (.inl (j2, as, pc', ls', st', h'))) => X j2 0 (entL as (G.2.1 j2)) [] h' (fun r h2 => match r with
    | .inl v => X j pc' ls' (v.toList ++ st') h2 Q
    | .inr E => match G.2.2 j pc E with
      | some (npc, k) => X j npc (lSet1 ls' k none) [] h2 Q
      | none => Q (.inr E) h2)
  | some (.inr (.inr (r, h'))) => Q r h'
def MonX (X : Jd) : Prop := ∀ (j pc : Nat) (ls : Lo) (st : Sk) (h : Hp) (Q Q' : MRes → Hp → Prop), (∀ r h2, Q r h2 → Q' r h2) → X j pc ls st h Q → X j pc ls st h Q'
def ClX (G : Pg) (X : Jd) : Prop := (∀ (j pc : Nat) (ls : Lo) (st : Sk) (h : Hp) (Q : MRes → Hp → Prop), ndX G X j pc (G.1 j pc ls st h) Q → X j pc ls st h Q) ∧ MonX X
/-- the least predicate closed under the steps -/
def WP (G : Pg) : Jd := fun j pc ls st h Q => ∀ X : Jd, ClX G X → X j pc ls st h Q
theorem ndX_mono {G : Pg} {X Y : Jd} (hY : MonX Y) (hXY : ∀ j pc ls st h Q, X j pc ls st h Q → Y j pc ls st h Q) {j pc : Nat} {nd : Nd} {Q Q' : MRes → Hp → Prop} (hQ : ∀ r h2, Q r h2 → Q' r h2) (h : ndX G X j pc nd Q) : ndX G Y j pc nd Q' := by
  rcases nd with _ | (⟨pc', ls', st', h'⟩ | (⟨j2, as, pc', ls', st', h'⟩ | ⟨r, h'⟩))
  · exact h
  · exact hY _ _ _ _ _ _ _ hQ (hXY _ _ _ _ _ _ h)
  · refine hY _ _ _ _ _ _ _ ?_ (hXY _ _ _ _ _ _ h)
    intro r h2 hr
    rcases r with v | E
    · exact hY _ _ _ _ _ _ _ hQ (hXY _ _ _ _ _ _ hr)
    · dsimp only at hr ⊢
      cases hh : G.2.2 j pc E with
      | none => rw [hh] at hr; exact hQ _ _ hr
      | some q => rw [hh] at hr; exact hY _ _ _ _ _ _ _ hQ (hXY _ _ _ _ _ _ hr)
  · exact hQ _ _ h
theorem WP_mono {G : Pg} : MonX (WP G) := fun j pc ls st h Q Q' hQ hw X hX => hX.2 j pc ls st h Q Q' hQ (hw X hX)
theorem WP_step {G : Pg} {j pc : Nat} {ls : Lo} {st : Sk} {h : Hp} {Q : MRes → Hp → Prop} (k : ndX G (WP G) j pc (G.1 j pc ls st h) Q) : WP G j pc ls st h Q :=
  fun X hX => hX.1 j pc ls st h Q (ndX_mono hX.2 (fun _ _ _ _ _ _ w => w X hX) (fun _ _ q => q) k)
theorem WP_cl (G : Pg) : ClX G (WP G) := ⟨fun _ _ _ _ _ _ k => WP_step k, WP_mono⟩
theorem WP_inv {G : Pg} {j pc : Nat} {ls : Lo} {st : Sk} {h : Hp} {Q : MRes → Hp → Prop} (k : WP G j pc ls st h Q) : ndX G (WP G) j pc (G.1 j pc ls st h) Q := by
  refine k (fun j pc ls st h Q => ndX G (WP G) j pc (G.1 j pc ls st h) Q) ⟨fun j pc ls st h Q q => ?_, fun j pc ls st h Q Q' hQ q => ?_⟩
  · refine ndX_mono WP_mono (fun _ _ _ _ _ _ w => WP_step w) (fun _ _ q => q) q
  · exact ndX_mono WP_mono (fun _ _ _ _ _ _ w => w) hQ q
theorem WP_eq (G : Pg) (j pc : Nat) (ls : Lo) (st : Sk) (h : Hp) (Q : MRes → Hp → Prop) : WP G j pc ls st h Q = ndX G (WP G) j pc (G.1 j pc ls st h) Q := propext ⟨WP_inv, WP_step⟩
end
section
/-! THE HANDLERS: what each instruction does in M (n: the pc behind it) -/
def oI (v : Int32) (n : Nat) : Hd := fun ls st h => some (.inl (n, ls, .inl v :: st, h))
def oJ (v : Int64) (n : Nat) : Hd := fun ls st h => some (.inl (n, ls, .inr (.inr (.inl v)) :: st, h))
def oF (v : UInt64) (n : Nat) : Hd := fun ls st h => some (.inl (n, ls, .inr (.inr (.inr v)) :: st, h))
def oN (n : Nat) : Hd := fun ls st h => some (.inl (n, ls, .inr (.inl none) :: st, h))
def oIld (k n : Nat) : Hd := fun ls st h => match ls[k]? with
  | some (some (.inl x)) => some (.inl (n, ls, .inl x :: st, h))
  | _ => none
def oAld (k n : Nat) : Hd := fun ls st h => match ls[k]? with
  | some (some (.inr (.inl r))) => some (.inl (n, ls, .inr (.inl r) :: st, h))
  | _ => none
def oLld (k n : Nat) : Hd := fun ls st h => match ls[k]? with
  | some (some (.inr (.inr (.inl x)))) => some (.inl (n, ls, .inr (.inr (.inl x)) :: st, h))
  | _ => none
def oDld (k n : Nat) : Hd := fun ls st h => match ls[k]? with
  | some (some (.inr (.inr (.inr x)))) => some (.inl (n, ls, .inr (.inr (.inr x)) :: st, h))
  | _ => none
def oIst (k n : Nat) : Hd := fun ls st h => match st with
  | .inl x :: r => some (.inl (n, lSet1 ls k (some (.inl x)), r, h))
  | _ => none
def oAst (k n : Nat) : Hd := fun ls st h => match st with
  | .inr (.inl x) :: r => some (.inl (n, lSet1 ls k (some (.inr (.inl x))), r, h))
  | _ => none
def oLst (k n : Nat) : Hd := fun ls st h => match st with
  | .inr (.inr (.inl x)) :: r => some (.inl (n, lSet2 ls k (.inr (.inr (.inl x))), r, h))
  | _ => none
def oDst (k n : Nat) : Hd := fun ls st h => match st with
  | .inr (.inr (.inr x)) :: r => some (.inl (n, lSet2 ls k (.inr (.inr (.inr x))), r, h))
  | _ => none
def oInc (k : Nat) (c : Int32) (n : Nat) : Hd := fun ls st h => match ls[k]? with
  | some (some (.inl x)) => some (.inl (n, lSet1 ls k (some (.inl (x + c))), st, h))
  | _ => none
def oII (f : Int32 → Int32 → Int32) (n : Nat) : Hd := fun ls st h => match st with
  | .inl y :: .inl x :: r => some (.inl (n, ls, .inl (f x y) :: r, h))
  | _ => none
def oIq (f : Int32 → Int32 → Int32) (n : Nat) : Hd := fun ls st h => match st with
  | .inl y :: .inl x :: r => if y = 0 then none else some (.inl (n, ls, .inl (f x y) :: r, h))
  | _ => none
def oLL (f : Int64 → Int64 → Int64) (n : Nat) : Hd := fun ls st h => match st with
  | .inr (.inr (.inl y)) :: .inr (.inr (.inl x)) :: r => some (.inl (n, ls, .inr (.inr (.inl (f x y))) :: r, h))
  | _ => none
def oLI (f : Int64 → Int32 → Int64) (n : Nat) : Hd := fun ls st h => match st with
  | .inl y :: .inr (.inr (.inl x)) :: r => some (.inl (n, ls, .inr (.inr (.inl (f x y))) :: r, h))
  | _ => none
def oI2L (n : Nat) : Hd := fun ls st h => match st with
  | .inl x :: r => some (.inl (n, ls, .inr (.inr (.inl x.toInt64)) :: r, h))
  | _ => none
def oL2I (n : Nat) : Hd := fun ls st h => match st with
  | .inr (.inr (.inl x)) :: r => some (.inl (n, ls, .inl x.toInt32 :: r, h))
  | _ => none
def oLcmp (n : Nat) : Hd := fun ls st h => match st with
  | .inr (.inr (.inl y)) :: .inr (.inr (.inl x)) :: r => some (.inl (n, ls, .inl (lg_cmp x y) :: r, h))
  | _ => none
def okD (r : UInt64) : Bool := decide (r &&& 0x7fffffffffffffff ≤ 0x7ff0000000000000)
def oDD (f : UInt64 → UInt64 → UInt64) (n : Nat) : Hd := fun ls st h => match st with
  | .inr (.inr (.inr y)) :: .inr (.inr (.inr x)) :: r => if okD (f x y) = true then some (.inl (n, ls, .inr (.inr (.inr (f x y))) :: r, h)) else none
  | _ => none
def oDcmp (op : CmpOp) (n : Nat) : Hd := fun ls st h => match st with
  | .inr (.inr (.inr y)) :: .inr (.inr (.inr x)) :: r => some (.inl (n, ls, .inl (Op.cmpValue (FP.dcmp x y) op) :: r, h))
  | _ => none
def oI2D (n : Nat) : Hd := fun ls st h => match st with
  | .inl x :: r => some (.inl (n, ls, .inr (.inr (.inr (FP.i2d x))) :: r, h))
  | _ => none
def oL2D (n : Nat) : Hd := fun ls st h => match st with
  | .inr (.inr (.inl x)) :: r => some (.inl (n, ls, .inr (.inr (.inr (FP.l2d x))) :: r, h))
  | _ => none
def oD2L (n : Nat) : Hd := fun ls st h => match st with
  | .inr (.inr (.inr x)) :: r => some (.inl (n, ls, .inr (.inr (.inl (FP.d2l x))) :: r, h))
  | _ => none
def oDup (n : Nat) : Hd := fun ls st h => match st with
  | v :: r => if isWide v = true then none else some (.inl (n, ls, v :: v :: r, h))
  | _ => none
def oDup2 (n : Nat) : Hd := fun ls st h => match st with
  | v :: w :: r => if (isWide v || isWide w) = true then none else some (.inl (n, ls, v :: w :: v :: w :: r, h))
  | _ => none
def oPop (n : Nat) : Hd := fun ls st h => match st with
  | v :: r => if isWide v = true then none else some (.inl (n, ls, r, h))
  | _ => none
def oIf (c : Int32 → Bool) (t n : Nat) : Hd := fun ls st h => match st with
  | .inl x :: r => some (.inl (if c x = true then t else n, ls, r, h))
  | _ => none
def oIC (c : Int32 → Int32 → Bool) (t n : Nat) : Hd := fun ls st h => match st with
  | .inl y :: .inl x :: r => some (.inl (if c x y = true then t else n, ls, r, h))
  | _ => none
def oIfN (t n : Nat) : Hd := fun ls st h => match st with
  | .inr (.inl x) :: r => some (.inl (if x.isNone = true then t else n, ls, r, h))
  | _ => none
def oIfNN (t n : Nat) : Hd := fun ls st h => match st with
  | .inr (.inl x) :: r => some (.inl (if x.isNone = true then n else t, ls, r, h))
  | _ => none
def oGo (t : Nat) : Hd := fun ls st h => some (.inl (t, ls, st, h))
def tsw (lo : Int) (ts : List Nat) (d : Nat) (x : Int32) : Nat := if x.toInt < lo then d else (ts[(x.toInt - lo).toNat]?).getD d
def oTsw (lo : Int) (ts : List Nat) (d : Nat) : Hd := fun ls st h => match st with
  | .inl x :: r => some (.inl (tsw lo ts d x, ls, r, h))
  | _ => none
def lsw : List (Int32 × Nat) → Nat → Int32 → Nat
  | [], d, _ => d
  | q :: r, d, x => if x = q.1 then q.2 else lsw r d x
def oLsw (ps : List (Int32 × Nat)) (d : Nat) : Hd := fun ls st h => match st with
  | .inl x :: r => some (.inl (lsw ps d x, ls, r, h))
  | _ => none
def oGetI (ci k n : Nat) : Hd := fun ls st h => match st with
  | .inr (.inl (some a)) :: r => if isK h a ci = true then some (.inl (n, ls, .inl (gI h a k) :: r, h)) else none
  | _ => none
def oGetR (ci k n : Nat) : Hd := fun ls st h => match st with
  | .inr (.inl (some a)) :: r => if isK h a ci = true then some (.inl (n, ls, .inr (.inl (gR h a k)) :: r, h)) else none
  | _ => none
def oGetL (ci k n : Nat) : Hd := fun ls st h => match st with
  | .inr (.inl (some a)) :: r => if isK h a ci = true then some (.inl (n, ls, .inr (.inr (.inl (gL h a k))) :: r, h)) else none
  | _ => none
def oGetD (ci k n : Nat) : Hd := fun ls st h => match st with
  | .inr (.inl (some a)) :: r => if isK h a ci = true then some (.inl (n, ls, .inr (.inr (.inr (gD h a k))) :: r, h)) else none
  | _ => none
def oPutI (ci k n : Nat) : Hd := fun ls st h => match st with
  | .inl x :: .inr (.inl (some a)) :: r => if isK h a ci = true then some (.inl (n, ls, r, sI h a k x)) else none
  | _ => none
def oPutZ (ci k n : Nat) : Hd := fun ls st h => match st with
  | .inl x :: .inr (.inl (some a)) :: r => if (isK h a ci && (decide (x = 0) || decide (x = 1))) = true then some (.inl (n, ls, r, sI h a k x)) else none
  | _ => none
def oPutR (ci k n : Nat) : Hd := fun ls st h => match st with
  | .inr (.inl x) :: .inr (.inl (some a)) :: r => if isK h a ci = true then some (.inl (n, ls, r, sR h a k x)) else none
  | _ => none
def oPutL (ci k n : Nat) : Hd := fun ls st h => match st with
  | .inr (.inr (.inl x)) :: .inr (.inl (some a)) :: r => if isK h a ci = true then some (.inl (n, ls, r, sL h a k x)) else none
  | _ => none
def oPutD (ci k n : Nat) : Hd := fun ls st h => match st with
  | .inr (.inr (.inr x)) :: .inr (.inl (some a)) :: r => if isK h a ci = true then some (.inl (n, ls, r, sD h a k x)) else none
  | _ => none
def oIal (t n : Nat) : Hd := fun ls st h => match st with
  | .inl i :: .inr (.inl (some a)) :: r => if (isK h a (100 + t) && inL h a i) = true then some (.inl (n, ls, .inl (gI h a i.toNatClampNeg) :: r, h)) else none
  | _ => none
def oAal (t n : Nat) : Hd := fun ls st h => match st with
  | .inl i :: .inr (.inl (some a)) :: r => if (isK h a (100 + t) && inL h a i) = true then some (.inl (n, ls, .inr (.inl (gR h a i.toNatClampNeg)) :: r, h)) else none
  | _ => none
def oLal (t n : Nat) : Hd := fun ls st h => match st with
  | .inl i :: .inr (.inl (some a)) :: r => if (isK h a (100 + t) && inL h a i) = true then some (.inl (n, ls, .inr (.inr (.inl (gL h a i.toNatClampNeg))) :: r, h)) else none
  | _ => none
def oIas (t n : Nat) : Hd := fun ls st h => match st with
  | .inl x :: .inl i :: .inr (.inl (some a)) :: r => if (isK h a (100 + t) && inL h a i && decide (a ≠ 0)) = true then some (.inl (n, ls, r, sI h a i.toNatClampNeg x)) else none
  | _ => none
def oLas (t n : Nat) : Hd := fun ls st h => match st with
  | .inr (.inr (.inl x)) :: .inl i :: .inr (.inl (some a)) :: r => if (isK h a (100 + t) && inL h a i) = true then some (.inl (n, ls, r, sL h a i.toNatClampNeg x)) else none
  | _ => none
def oAas (t ci n : Nat) : Hd := fun ls st h => match st with
  | .inr (.inl (some x)) :: .inl i :: .inr (.inl (some a)) :: r => if (isK h a (100 + t) && inL h a i && isK h x ci) = true then some (.inl (n, ls, r, sR h a i.toNatClampNeg (some x))) else none
  | _ => none
def oLen (t n : Nat) : Hd := fun ls st h => match st with
  | .inr (.inl (some a)) :: r => if isK h a (100 + t) = true then some (.inl (n, ls, .inl (Int32.ofNat (ln h a)) :: r, h)) else none
  | _ => none
/-- is there room for n cells of s slots more -/
def okR (cM sM : Nat) (h : Hp) (n s : Nat) : Bool := decide (nx h + n ≤ cM + 1) && decide (sc h + s ≤ sM)
def oNew (cM sM ci N n : Nat) : Hd := fun ls st h => if okR cM sM h 1 N = true then some (.inl (n, ls, .inr (.inl (some (nx h))) :: st, hN h ci 0 N)) else none
def oNewA (cM sM t n : Nat) : Hd := fun ls st h => match st with
  | .inl i :: r => if (decide (0 ≤ i) && decide (i.toNatClampNeg ≤ 1000000) && okR cM sM h 1 i.toNatClampNeg) = true then some (.inl (n, ls, .inr (.inl (some (nx h))) :: r, hN h (100 + t) i.toNatClampNeg i.toNatClampNeg)) else none
  | _ => none
/-- new T[N][K]: the outer row, then N inner ones -/
def hM (h : Hp) (t t2 N K : Nat) : Hp := (fun b j => if nx h ≤ b ∧ b ≤ nx h + N then 0 else h.1 b j, fun b j => if b = nx h then (if j < N then some (nx h + 1 + j) else none) else if nx h ≤ b ∧ b ≤ nx h + N then none else h.2.1 b j,
  fun b j => if nx h ≤ b ∧ b ≤ nx h + N then 0 else h.2.2.1 b j, fun b j => if nx h ≤ b ∧ b ≤ nx h + N then 0 else h.2.2.2.1 b j,
  fun b => if b = nx h then 100 + t else if nx h ≤ b ∧ b ≤ nx h + N then 100 + t2 else h.2.2.2.2.1 b, fun b => if b = nx h then N else if nx h ≤ b ∧ b ≤ nx h + N then K else h.2.2.2.2.2.1 b, nx h + 1 + N, sc h + (N + N * K))
def oMul (cM sM t t2 n : Nat) : Hd := fun ls st h => match st with
  | .inl k :: .inl i :: r => if (decide (0 ≤ i) && decide (i.toNatClampNeg ≤ 1000) && (decide (0 ≤ k) && decide (k.toNatClampNeg ≤ 1000)) && okR cM sM h (1 + i.toNatClampNeg) (i.toNatClampNeg + i.toNatClampNeg * k.toNatClampNeg)) = true
    then some (.inl (n, ls, .inr (.inl (some (nx h))) :: r, hM h t t2 i.toNatClampNeg k.toNatClampNeg)) else none
  | _ => none
/-- the arguments off the stack, the first one ahead -/
def popA : Nat → List MV → Sk → Option (List MV × Sk)
  | 0, acc, st => some (acc, st)
  | k + 1, acc, v :: st => popA k (v :: acc) st
  | _ + 1, _, [] => none
def oCallV (ci j2 na ml n : Nat) : Hd := fun ls st h => match popA na [] st with
  | some (as, .inr (.inl (some a)) :: rest) => if (isK h a ci && decide (catS rest ≤ 8) && decide (catS as < ml)) = true then some (.inr (.inl (j2, .inr (.inl (some a)) :: as, n, ls, rest, h))) else none
  | _ => none
def oCallS (j2 na ml n : Nat) : Hd := fun ls st h => match popA na [] st with
  | some (as, rest) => if (decide (catS rest ≤ 8) && decide (catS as ≤ ml)) = true then some (.inr (.inl (j2, as, n, ls, rest, h))) else none
  | _ => none
def oObj (n : Nat) : Hd := fun ls st h => match st with
  | .inr (.inl (some _)) :: rest => if catS rest ≤ 8 then some (.inl (n, ls, rest, h)) else none
  | _ => none
def oRet : Hd := fun _ st h => match st with
  | [] => some (.inr (.inr (.inl none, h)))
  | _ => none
def oRetI : Hd := fun _ st h => match st with
  | [.inl x] => some (.inr (.inr (.inl (some (.inl x)), h)))
  | _ => none
def oRetZ : Hd := fun _ st h => match st with
  | [.inl x] => if (decide (x = 0) || decide (x = 1)) = true then some (.inr (.inr (.inl (some (.inl x)), h))) else none
  | _ => none
def oRetA : Hd := fun _ st h => match st with
  | [.inr (.inl x)] => some (.inr (.inr (.inl (some (.inr (.inl x))), h)))
  | _ => none
def oRetL : Hd := fun _ st h => match st with
  | [.inr (.inr (.inl x))] => some (.inr (.inr (.inl (some (.inr (.inr (.inl x)))), h)))
  | _ => none
def oRetD : Hd := fun _ st h => match st with
  | [.inr (.inr (.inr x))] => some (.inr (.inr (.inl (some (.inr (.inr (.inr x)))), h)))
  | _ => none
/-- throw new E("..."): one cell of six slots -/
def oThr (cM sM E ci : Nat) : Hd := fun _ st h => match st with
  | [] => if okR cM sM h 1 6 = true then some (.inr (.inr (.inr E, hN h ci 0 6))) else none
  | _ => none
end
section
/-! THE TABLES OF THIS CLAIM: classes, fields, arrays, methods (printed by wip/gen.py) -/
abbrev kc_Frame : Nat := 0
abbrev kc_FrameQueue : Nat := 1
abbrev kc_Land : Nat := 2
abbrev kc_Market : Nat := 3
abbrev kc_Node : Nat := 4
abbrev kc_NumberSet : Nat := 5
abbrev kc_Routes : Nat := 6
abbrev kc_Traffic : Nat := 7
abbrev kc_S : Nat := 8
abbrev kc_IllegalArgumentException : Nat := 9
abbrev kc_IllegalStateException : Nat := 10
abbrev kc_IndexOutOfBoundsException : Nat := 11
def kT0 : u_T := fun _ => ("", "", "", false)
abbrev kN : List vw_C := [(RX0, TX0, 5), (RX1, TX1, 2), (RX2, TX2, 3), (RX3, TX3, 9), (RX4, TX4, 16), (RX5, TX5, 1), (RX6, TX6, 6), (RX7, TX7, 7), (RX8, TX8, 5), ("java/lang/IllegalArgumentException", kT0, 0), ("java/lang/IllegalStateException", kT0, 0), ("java/lang/IndexOutOfBoundsException", kT0, 0)]
/-- what a field holds: 0 an int, 1 a reference, 2 a long, 3 a double -/
def kF (ci k : Nat) : Nat := match ci with
  | 0 => ([0, 0, 0, 0, 0] : List Nat).getD k 0
  | 1 => ([1, 0] : List Nat).getD k 0
  | 2 => ([1, 1, 0] : List Nat).getD k 0
  | 3 => ([1, 1, 1, 1, 1, 0, 0, 0, 0] : List Nat).getD k 0
  | 4 => ([0, 0, 0, 0, 1, 0, 0, 0, 0, 0, 0, 0, 0, 0, 0, 1] : List Nat).getD k 0
  | 5 => ([1] : List Nat).getD k 0
  | 6 => ([1, 1, 1, 1, 1, 0] : List Nat).getD k 0
  | 7 => ([1, 1, 0, 0, 0, 0, 0] : List Nat).getD k 0
  | 8 => ([1, 1, 1, 1, 0] : List Nat).getD k 0
  | _ => 0
def nA : Nat := 5
def kA (t : Nat) : FieldType := match t with
  | 0 => (.int)
  | 1 => (.long)
  | 2 => (.object "Sharedair$Node")
  | 3 => (.object "Sharedair$Frame")
  | _ => (.array .int)
def kE (t : Nat) : Nat := ([0, 2, 1, 1, 1] : List Nat).getD t 0
def kEx : List String := ["java/lang/IllegalArgumentException", "java/lang/IllegalStateException", "java/lang/IndexOutOfBoundsException"]
def cM : Nat := 600104
def sM : Nat := 7301314
abbrev j_Frame_init : Nat := 0
abbrev j_FrameQueue_init : Nat := 1
abbrev j_FrameQueue_at : Nat := 2
abbrev j_FrameQueue_add : Nat := 3
abbrev j_FrameQueue_removeFirst : Nat := 4
abbrev j_Land_init : Nat := 5
abbrev j_Land_isNode : Nat := 6
abbrev j_Land_everyone : Nat := 7
abbrev j_Land_add : Nat := 8
abbrev j_Land_put : Nat := 9
abbrev j_Land_adjust : Nat := 10
abbrev j_Land_findHearers : Nat := 11
abbrev j_Land_far : Nat := 12
abbrev j_Land_canHear : Nat := 13
abbrev j_Land_areLinked : Nat := 14
abbrev j_Land_linkedWith : Nat := 15
abbrev j_Land_hearsOneOf : Nat := 16
abbrev j_Land_gets : Nat := 17
abbrev j_Land_framesInQueues : Nat := 18
abbrev j_Land_isSuspect : Nat := 19
abbrev j_Land_fewestCovering : Nat := 20
abbrev j_Land_isCovering : Nat := 21
abbrev j_Market_init : Nat := 22
abbrev j_Market_add : Nat := 23
abbrev j_Market_weigh : Nat := 24
abbrev j_Market_winningPrice : Nat := 25
abbrev j_Market_paidBy : Nat := 26
abbrev j_Market_nobodyOverpays : Nat := 27
abbrev j_Market_sellAll : Nat := 28
abbrev j_Market_forgetBids : Nat := 29
abbrev j_Node_init : Nat := 30
abbrev j_Node_isSending : Nat := 31
abbrev j_Node_begin : Nat := 32
abbrev j_Node_finishFirst : Nat := 33
abbrev j_Node_waitAgain : Nat := 34
abbrev j_Node_isInOrder : Nat := 35
abbrev j_NumberSet_init : Nat := 36
abbrev j_NumberSet_has : Nat := 37
abbrev j_NumberSet_put : Nat := 38
abbrev j_NumberSet_size : Nat := 39
abbrev j_Routes_init : Nat := 40
abbrev j_Routes_costOf : Nat := 41
abbrev j_Routes_nextOf : Nat := 42
abbrev j_Routes_renew : Nat := 43
abbrev j_Routes_renewPair : Nat := 44
abbrev j_Routes_cheapestNeighbour : Nat := 45
abbrev j_Routes_wayLength : Nat := 46
abbrev j_Routes_hasCircle : Nat := 47
abbrev j_Routes_follow : Nat := 48
abbrev j_Routes_pairsWithRoute : Nat := 49
abbrev j_Routes_pairsWithCircle : Nat := 50
abbrev j_Routes_areInOrder : Nat := 51
abbrev j_Traffic_init : Nat := 52
abbrev j_Traffic_senders : Nat := 53
abbrev j_Traffic_goBy : Nat := 54
abbrev j_Traffic_takeTurn : Nat := 55
abbrev j_Traffic_goOn : Nat := 56
abbrev j_Traffic_end : Nat := 57
abbrev j_Traffic_tryAgain : Nat := 58
abbrev j_Traffic_receive : Nat := 59
abbrev j_Traffic_pushCopy : Nat := 60
abbrev j_Traffic_arrive : Nat := 61
abbrev j_Traffic_dropFirst : Nat := 62
abbrev j_Traffic_draw : Nat := 63
abbrev j_S_init : Nat := 64
abbrev j_S_node : Nat := 65
abbrev j_S_move : Nat := 66
abbrev j_S_tune : Nat := 67
abbrev j_S_send : Nat := 68
abbrev j_S_pass : Nat := 69
abbrev j_S_exchange : Nat := 70
abbrev j_S_bid : Nat := 71
abbrev j_S_sell : Nat := 72
abbrev j_S_hears : Nat := 73
abbrev j_S_ofNode : Nat := 74
abbrev j_S_inQueue : Nat := 75
abbrev j_S_route : Nat := 76
abbrev j_S_air : Nat := 77
abbrev j_S_delivered : Nat := 78
abbrev j_S_fairness : Nat := 79
abbrev j_S_would : Nat := 80
abbrev j_S_auction : Nat := 81
abbrev j_S_cover : Nat := 82
abbrev j_S_isSound : Nat := 83
abbrev j_S_digest : Nat := 84
abbrev j_S_mixNode : Nat := 85
abbrev j_S_mix : Nat := 86
abbrev j_S_checkNode : Nat := 87
abbrev j_S_checkPair : Nat := 88
abbrev j_S_checkSilent : Nat := 89
abbrev j_S_isWithin : Nat := 90
abbrev j_S_isPlace : Nat := 91
abbrev j_S_isReach : Nat := 92
abbrev j_S_isIn : Nat := 93
abbrev j_Integer_bitCount : Nat := 94
abbrev j_Long_bitCount : Nat := 95
abbrev j_Law_below : Nat := 96
abbrev j_Law_cell : Nat := 97
abbrev j_Law_law : Nat := 98
abbrev j_Law_act : Nat := 99
abbrev j_Law_isAsked : Nat := 100
def mY (j : Nat) : MethodName := match j with
  | 0 => yX0_init
  | 1 => yX1_init
  | 2 => yX1_at
  | 3 => yX1_add
  | 4 => yX1_removeFirst
  | 5 => yX2_init
  | 6 => yX2_isNode
  | 7 => yX2_everyone
  | 8 => yX2_add
  | 9 => yX2_put
  | 10 => yX2_adjust
  | 11 => yX2_findHearers
  | 12 => yX2_far
  | 13 => yX2_canHear
  | 14 => yX2_areLinked
  | 15 => yX2_linkedWith
  | 16 => yX2_hearsOneOf
  | 17 => yX2_gets
  | 18 => yX2_framesInQueues
  | 19 => yX2_isSuspect
  | 20 => yX2_fewestCovering
  | 21 => yX2_isCovering
  | 22 => yX3_init
  | 23 => yX3_add
  | 24 => yX3_weigh
  | 25 => yX3_winningPrice
  | 26 => yX3_paidBy
  | 27 => yX3_nobodyOverpays
  | 28 => yX3_sellAll
  | 29 => yX3_forgetBids
  | 30 => yX4_init
  | 31 => yX4_isSending
  | 32 => yX4_begin
  | 33 => yX4_finishFirst
  | 34 => yX4_waitAgain
  | 35 => yX4_isInOrder
  | 36 => yX5_init
  | 37 => yX5_has
  | 38 => yX5_put
  | 39 => yX5_size
  | 40 => yX6_init
  | 41 => yX6_costOf
  | 42 => yX6_nextOf
  | 43 => yX6_renew
  | 44 => yX6_renewPair
  | 45 => yX6_cheapestNeighbour
  | 46 => yX6_wayLength
  | 47 => yX6_hasCircle
  | 48 => yX6_follow
  | 49 => yX6_pairsWithRoute
  | 50 => yX6_pairsWithCircle
  | 51 => yX6_areInOrder
  | 52 => yX7_init
  | 53 => yX7_senders
  | 54 => yX7_goBy
  | 55 => yX7_takeTurn
  | 56 => yX7_goOn
  | 57 => yX7_end
  | 58 => yX7_tryAgain
  | 59 => yX7_receive
  | 60 => yX7_pushCopy
  | 61 => yX7_arrive
  | 62 => yX7_dropFirst
  | 63 => yX7_draw
  | 64 => yX8_init
  | 65 => yX8_node
  | 66 => yX8_move
  | 67 => yX8_tune
  | 68 => yX8_send
  | 69 => yX8_pass
  | 70 => yX8_exchange
  | 71 => yX8_bid
  | 72 => yX8_sell
  | 73 => yX8_hears
  | 74 => yX8_ofNode
  | 75 => yX8_inQueue
  | 76 => yX8_route
  | 77 => yX8_air
  | 78 => yX8_delivered
  | 79 => yX8_fairness
  | 80 => yX8_would
  | 81 => yX8_auction
  | 82 => yX8_cover
  | 83 => yX8_isSound
  | 84 => yX8_digest
  | 85 => yX8_mixNode
  | 86 => yX8_mix
  | 87 => yX8_checkNode
  | 88 => yX8_checkPair
  | 89 => yX8_checkSilent
  | 90 => yX8_isWithin
  | 91 => yX8_isPlace
  | 92 => yX8_isReach
  | 93 => yX8_isIn
  | 94 => yJ6_bitCount_0f7a4
  | 95 => yJ13_bitCount_95d88
  | 96 => yL_below
  | 97 => yL_cell
  | 98 => yL_law
  | 99 => yL_act
  | 100 => yL_isAsked
  | _ => yL_law
def mC (j : Nat) : ByteArray := match j with
  | 0 => cX0_init
  | 1 => cX1_init
  | 2 => cX1_at
  | 3 => cX1_add
  | 4 => cX1_removeFirst
  | 5 => cX2_init
  | 6 => cX2_isNode
  | 7 => cX2_everyone
  | 8 => cX2_add
  | 9 => cX2_put
  | 10 => cX2_adjust
  | 11 => cX2_findHearers
  | 12 => cX2_far
  | 13 => cX2_canHear
  | 14 => cX2_areLinked
  | 15 => cX2_linkedWith
  | 16 => cX2_hearsOneOf
  | 17 => cX2_gets
  | 18 => cX2_framesInQueues
  | 19 => cX2_isSuspect
  | 20 => cX2_fewestCovering
  | 21 => cX2_isCovering
  | 22 => cX3_init
  | 23 => cX3_add
  | 24 => cX3_weigh
  | 25 => cX3_winningPrice
  | 26 => cX3_paidBy
  | 27 => cX3_nobodyOverpays
  | 28 => cX3_sellAll
  | 29 => cX3_forgetBids
  | 30 => cX4_init
  | 31 => cX4_isSending
  | 32 => cX4_begin
  | 33 => cX4_finishFirst
  | 34 => cX4_waitAgain
  | 35 => cX4_isInOrder
  | 36 => cX5_init
  | 37 => cX5_has
  | 38 => cX5_put
  | 39 => cX5_size
  | 40 => cX6_init
  | 41 => cX6_costOf
  | 42 => cX6_nextOf
  | 43 => cX6_renew
  | 44 => cX6_renewPair
  | 45 => cX6_cheapestNeighbour
  | 46 => cX6_wayLength
  | 47 => cX6_hasCircle
  | 48 => cX6_follow
  | 49 => cX6_pairsWithRoute
  | 50 => cX6_pairsWithCircle
  | 51 => cX6_areInOrder
  | 52 => cX7_init
  | 53 => cX7_senders
  | 54 => cX7_goBy
  | 55 => cX7_takeTurn
  | 56 => cX7_goOn
  | 57 => cX7_end
  | 58 => cX7_tryAgain
  | 59 => cX7_receive
  | 60 => cX7_pushCopy
  | 61 => cX7_arrive
  | 62 => cX7_dropFirst
  | 63 => cX7_draw
  | 64 => cX8_init
  | 65 => cX8_node
  | 66 => cX8_move
  | 67 => cX8_tune
  | 68 => cX8_send
  | 69 => cX8_pass
  | 70 => cX8_exchange
  | 71 => cX8_bid
  | 72 => cX8_sell
  | 73 => cX8_hears
  | 74 => cX8_ofNode
  | 75 => cX8_inQueue
  | 76 => cX8_route
  | 77 => cX8_air
  | 78 => cX8_delivered
  | 79 => cX8_fairness
  | 80 => cX8_would
  | 81 => cX8_auction
  | 82 => cX8_cover
  | 83 => cX8_isSound
  | 84 => cX8_digest
  | 85 => cX8_mixNode
  | 86 => cX8_mix
  | 87 => cX8_checkNode
  | 88 => cX8_checkPair
  | 89 => cX8_checkSilent
  | 90 => cX8_isWithin
  | 91 => cX8_isPlace
  | 92 => cX8_isReach
  | 93 => cX8_isIn
  | 94 => cJ6_bitCount_0f7a4
  | 95 => cJ13_bitCount_95d88
  | 96 => cL_below
  | 97 => cL_cell
  | 98 => cL_law
  | 99 => cL_act
  | 100 => cL_isAsked
  | _ => code
def mL (j : Nat) : Nat := match j with
  | 0 => 1
  | 1 => 2
  | 2 => 2
  | 3 => 7
  | 4 => 3
  | 5 => 2
  | 6 => 2
  | 7 => 1
  | 8 => 6
  | 9 => 4
  | 10 => 4
  | 11 => 4
  | 12 => 5
  | 13 => 3
  | 14 => 3
  | 15 => 4
  | 16 => 4
  | 17 => 7
  | 18 => 3
  | 19 => 11
  | 20 => 3
  | 21 => 4
  | 22 => 1
  | 23 => 9
  | 24 => 3
  | 25 => 3
  | 26 => 3
  | 27 => 2
  | 28 => 3
  | 29 => 2
  | 30 => 1
  | 31 => 1
  | 32 => 3
  | 33 => 1
  | 34 => 2
  | 35 => 2
  | 36 => 1
  | 37 => 2
  | 38 => 2
  | 39 => 3
  | 40 => 4
  | 41 => 3
  | 42 => 3
  | 43 => 3
  | 44 => 6
  | 45 => 6
  | 46 => 4
  | 47 => 3
  | 48 => 5
  | 49 => 4
  | 50 => 4
  | 51 => 4
  | 52 => 3
  | 53 => 3
  | 54 => 4
  | 55 => 5
  | 56 => 4
  | 57 => 5
  | 58 => 2
  | 59 => 3
  | 60 => 2
  | 61 => 3
  | 62 => 2
  | 63 => 2
  | 64 => 1
  | 65 => 5
  | 66 => 4
  | 67 => 5
  | 68 => 6
  | 69 => 3
  | 70 => 3
  | 71 => 4
  | 72 => 1
  | 73 => 3
  | 74 => 4
  | 75 => 5
  | 76 => 4
  | 77 => 2
  | 78 => 4
  | 79 => 8
  | 80 => 4
  | 81 => 2
  | 82 => 1
  | 83 => 3
  | 84 => 4
  | 85 => 8
  | 86 => 4
  | 87 => 2
  | 88 => 3
  | 89 => 2
  | 90 => 3
  | 91 => 2
  | 92 => 1
  | 93 => 2
  | 94 => 1
  | 95 => 2
  | 96 => 2
  | 97 => 2
  | 98 => 10
  | 99 => 6
  | 100 => 11
  | _ => 0
def mR (j : Nat) : Option FieldType := match j with
  | 0 => none
  | 1 => none
  | 2 => (some (.object "Sharedair$Frame"))
  | 3 => (some .boolean)
  | 4 => none
  | 5 => none
  | 6 => (some .boolean)
  | 7 => (some .int)
  | 8 => (some .int)
  | 9 => none
  | 10 => none
  | 11 => none
  | 12 => (some .int)
  | 13 => (some .boolean)
  | 14 => (some .boolean)
  | 15 => (some .int)
  | 16 => (some .boolean)
  | 17 => (some .boolean)
  | 18 => (some .int)
  | 19 => (some .boolean)
  | 20 => (some .int)
  | 21 => (some .boolean)
  | 22 => none
  | 23 => (some .int)
  | 24 => none
  | 25 => (some .int)
  | 26 => (some .int)
  | 27 => (some .boolean)
  | 28 => (some .int)
  | 29 => none
  | 30 => none
  | 31 => (some .boolean)
  | 32 => none
  | 33 => none
  | 34 => none
  | 35 => (some .boolean)
  | 36 => none
  | 37 => (some .boolean)
  | 38 => none
  | 39 => (some .int)
  | 40 => none
  | 41 => (some .int)
  | 42 => (some .int)
  | 43 => none
  | 44 => none
  | 45 => (some .int)
  | 46 => (some .int)
  | 47 => (some .boolean)
  | 48 => (some .int)
  | 49 => (some .int)
  | 50 => (some .int)
  | 51 => (some .boolean)
  | 52 => none
  | 53 => (some .int)
  | 54 => none
  | 55 => none
  | 56 => none
  | 57 => none
  | 58 => none
  | 59 => none
  | 60 => (some .boolean)
  | 61 => none
  | 62 => none
  | 63 => (some .int)
  | 64 => none
  | 65 => (some .int)
  | 66 => (some .int)
  | 67 => (some .int)
  | 68 => (some .int)
  | 69 => (some .int)
  | 70 => (some .int)
  | 71 => (some .int)
  | 72 => (some .int)
  | 73 => (some .boolean)
  | 74 => (some .int)
  | 75 => (some .int)
  | 76 => (some .int)
  | 77 => (some .int)
  | 78 => (some .boolean)
  | 79 => (some .double)
  | 80 => (some .int)
  | 81 => (some .int)
  | 82 => (some .int)
  | 83 => (some .boolean)
  | 84 => (some .long)
  | 85 => (some .long)
  | 86 => (some .long)
  | 87 => none
  | 88 => none
  | 89 => none
  | 90 => (some .boolean)
  | 91 => (some .boolean)
  | 92 => (some .boolean)
  | 93 => (some .boolean)
  | 94 => (some .int)
  | 95 => (some .int)
  | 96 => (some .int)
  | 97 => (some .int)
  | 98 => ret
  | 99 => none
  | 100 => (some .boolean)
  | _ => none
def mO (j : Nat) : String := match j with
  | 0 => RX0
  | 1 => RX1
  | 2 => RX1
  | 3 => RX1
  | 4 => RX1
  | 5 => RX2
  | 6 => RX2
  | 7 => RX2
  | 8 => RX2
  | 9 => RX2
  | 10 => RX2
  | 11 => RX2
  | 12 => RX2
  | 13 => RX2
  | 14 => RX2
  | 15 => RX2
  | 16 => RX2
  | 17 => RX2
  | 18 => RX2
  | 19 => RX2
  | 20 => RX2
  | 21 => RX2
  | 22 => RX3
  | 23 => RX3
  | 24 => RX3
  | 25 => RX3
  | 26 => RX3
  | 27 => RX3
  | 28 => RX3
  | 29 => RX3
  | 30 => RX4
  | 31 => RX4
  | 32 => RX4
  | 33 => RX4
  | 34 => RX4
  | 35 => RX4
  | 36 => RX5
  | 37 => RX5
  | 38 => RX5
  | 39 => RX5
  | 40 => RX6
  | 41 => RX6
  | 42 => RX6
  | 43 => RX6
  | 44 => RX6
  | 45 => RX6
  | 46 => RX6
  | 47 => RX6
  | 48 => RX6
  | 49 => RX6
  | 50 => RX6
  | 51 => RX6
  | 52 => RX7
  | 53 => RX7
  | 54 => RX7
  | 55 => RX7
  | 56 => RX7
  | 57 => RX7
  | 58 => RX7
  | 59 => RX7
  | 60 => RX7
  | 61 => RX7
  | 62 => RX7
  | 63 => RX7
  | 64 => RX8
  | 65 => RX8
  | 66 => RX8
  | 67 => RX8
  | 68 => RX8
  | 69 => RX8
  | 70 => RX8
  | 71 => RX8
  | 72 => RX8
  | 73 => RX8
  | 74 => RX8
  | 75 => RX8
  | 76 => RX8
  | 77 => RX8
  | 78 => RX8
  | 79 => RX8
  | 80 => RX8
  | 81 => RX8
  | 82 => RX8
  | 83 => RX8
  | 84 => RX8
  | 85 => RX8
  | 86 => RX8
  | 87 => RX8
  | 88 => RX8
  | 89 => RX8
  | 90 => RX8
  | 91 => RX8
  | 92 => RX8
  | 93 => RX8
  | 94 => RJ6
  | 95 => RJ13
  | 96 => RL
  | 97 => RL
  | 98 => RL
  | 99 => RL
  | 100 => RL
  | _ => RL
def mH (j : Nat) : List (Nat × Nat × Nat × Nat) := match j with
  | 0 => []
  | 1 => []
  | 2 => []
  | 3 => []
  | 4 => []
  | 5 => []
  | 6 => []
  | 7 => []
  | 8 => []
  | 9 => []
  | 10 => []
  | 11 => []
  | 12 => []
  | 13 => []
  | 14 => []
  | 15 => []
  | 16 => []
  | 17 => []
  | 18 => []
  | 19 => []
  | 20 => []
  | 21 => []
  | 22 => []
  | 23 => []
  | 24 => []
  | 25 => []
  | 26 => []
  | 27 => []
  | 28 => []
  | 29 => []
  | 30 => []
  | 31 => []
  | 32 => []
  | 33 => []
  | 34 => []
  | 35 => []
  | 36 => []
  | 37 => []
  | 38 => []
  | 39 => []
  | 40 => []
  | 41 => []
  | 42 => []
  | 43 => []
  | 44 => []
  | 45 => []
  | 46 => []
  | 47 => []
  | 48 => []
  | 49 => []
  | 50 => []
  | 51 => []
  | 52 => []
  | 53 => []
  | 54 => []
  | 55 => []
  | 56 => []
  | 57 => []
  | 58 => []
  | 59 => []
  | 60 => []
  | 61 => []
  | 62 => []
  | 63 => []
  | 64 => []
  | 65 => []
  | 66 => []
  | 67 => []
  | 68 => []
  | 69 => []
  | 70 => []
  | 71 => []
  | 72 => []
  | 73 => []
  | 74 => []
  | 75 => []
  | 76 => []
  | 77 => []
  | 78 => []
  | 79 => []
  | 80 => []
  | 81 => []
  | 82 => []
  | 83 => []
  | 84 => []
  | 85 => []
  | 86 => []
  | 87 => []
  | 88 => []
  | 89 => []
  | 90 => []
  | 91 => []
  | 92 => []
  | 93 => []
  | 94 => []
  | 95 => []
  | 96 => []
  | 97 => []
  | 98 => []
  | 99 => [(7, 222, 225, 67), (7, 222, 228, 69), (7, 222, 231, 71)]
  | 100 => []
  | _ => []
def mF (j : Nat) : Nat := match j with
  | 0 => 1
  | 1 => 2
  | 2 => 0
  | 3 => 0
  | 4 => 0
  | 5 => 4
  | 6 => 0
  | 7 => 0
  | 8 => 3
  | 9 => 2
  | 10 => 2
  | 11 => 1
  | 12 => 0
  | 13 => 1
  | 14 => 2
  | 15 => 3
  | 16 => 2
  | 17 => 2
  | 18 => 0
  | 19 => 0
  | 20 => 2
  | 21 => 1
  | 22 => 1
  | 23 => 2
  | 24 => 1
  | 25 => 1
  | 26 => 2
  | 27 => 3
  | 28 => 3
  | 29 => 0
  | 30 => 3
  | 31 => 0
  | 32 => 0
  | 33 => 1
  | 34 => 0
  | 35 => 1
  | 36 => 1
  | 37 => 0
  | 38 => 0
  | 39 => 1
  | 40 => 1
  | 41 => 1
  | 42 => 1
  | 43 => 5
  | 44 => 4
  | 45 => 3
  | 46 => 3
  | 47 => 3
  | 48 => 2
  | 49 => 0
  | 50 => 4
  | 51 => 1
  | 52 => 1
  | 53 => 1
  | 54 => 5
  | 55 => 3
  | 56 => 3
  | 57 => 4
  | 58 => 3
  | 59 => 2
  | 60 => 1
  | 61 => 1
  | 62 => 2
  | 63 => 0
  | 64 => 5
  | 65 => 6
  | 66 => 7
  | 67 => 7
  | 68 => 7
  | 69 => 6
  | 70 => 6
  | 71 => 6
  | 72 => 4
  | 73 => 8
  | 74 => 7
  | 75 => 7
  | 76 => 8
  | 77 => 6
  | 78 => 7
  | 79 => 0
  | 80 => 7
  | 81 => 6
  | 82 => 3
  | 83 => 4
  | 84 => 10
  | 85 => 9
  | 86 => 0
  | 87 => 6
  | 88 => 7
  | 89 => 6
  | 90 => 0
  | 91 => 1
  | 92 => 1
  | 93 => 0
  | 94 => 0
  | 95 => 0
  | 96 => 0
  | 97 => 0
  | 98 => 12
  | 99 => 8
  | 100 => 11
  | _ => 0
def mW (j : Nat) : Nat := match j with
  | 0 => 20
  | 1 => 40
  | 2 => 0
  | 3 => 0
  | 4 => 0
  | 5 => 81
  | 6 => 0
  | 7 => 0
  | 8 => 70
  | 9 => 47
  | 10 => 47
  | 11 => 24
  | 12 => 0
  | 13 => 21
  | 14 => 43
  | 15 => 65
  | 16 => 43
  | 17 => 43
  | 18 => 0
  | 19 => 0
  | 20 => 44
  | 21 => 21
  | 22 => 20
  | 23 => 43
  | 24 => 21
  | 25 => 21
  | 26 => 43
  | 27 => 65
  | 28 => 65
  | 29 => 0
  | 30 => 61
  | 31 => 0
  | 32 => 0
  | 33 => 22
  | 34 => 0
  | 35 => 22
  | 36 => 20
  | 37 => 0
  | 38 => 0
  | 39 => 21
  | 40 => 20
  | 41 => 21
  | 42 => 21
  | 43 => 115
  | 44 => 90
  | 45 => 65
  | 46 => 67
  | 47 => 67
  | 48 => 43
  | 49 => 0
  | 50 => 89
  | 51 => 22
  | 52 => 20
  | 53 => 20
  | 54 => 108
  | 55 => 63
  | 56 => 69
  | 57 => 84
  | 58 => 63
  | 59 => 47
  | 60 => 26
  | 61 => 21
  | 62 => 42
  | 63 => 0
  | 64 => 102
  | 65 => 95
  | 66 => 103
  | 67 => 103
  | 68 => 103
  | 69 => 131
  | 70 => 137
  | 71 => 82
  | 72 => 87
  | 73 => 125
  | 74 => 103
  | 75 => 103
  | 76 => 125
  | 77 => 112
  | 78 => 103
  | 79 => 0
  | 80 => 103
  | 81 => 82
  | 82 => 66
  | 83 => 86
  | 84 => 175
  | 85 => 148
  | 86 => 0
  | 87 => 82
  | 88 => 103
  | 89 => 82
  | 90 => 0
  | 91 => 22
  | 92 => 22
  | 93 => 0
  | 94 => 0
  | 95 => 0
  | 96 => 0
  | 97 => 0
  | 98 => 228
  | 99 => 159
  | 100 => 198
  | _ => 0
/-- the good words of the tables -/
def TBg : List Cond := lw_tbl.filter goodWord
def kNest : List (String × Nat × MethodName × String) := [(RX2, 25, ⟨"Sharedair$Node", "<init>", "()V"⟩, "Sharedair"), (RX1, 21, ⟨"Sharedair$Frame", "<init>", "()V"⟩, "Sharedair"), (RX4, 64, ⟨"Sharedair$NumberSet", "<init>", "()V"⟩, "Sharedair"), (RX8, 36, ⟨"Sharedair$Market", "<init>", "()V"⟩, "Sharedair"), (RX2, 54, ⟨"Sharedair", "isIn", "(II)Z"⟩, "Sharedair"), (RX3, 44, ⟨"Sharedair", "isIn", "(II)Z"⟩, "Sharedair"), (RX7, 54, ⟨"Sharedair", "isIn", "(II)Z"⟩, "Sharedair"), (RX4, 79, ⟨"Sharedair", "isWithin", "(III)Z"⟩, "Sharedair"), (RX6, 63, ⟨"Sharedair", "isWithin", "(III)Z"⟩, "Sharedair")]
def kCast : List (String × String) := [("java/lang/IllegalArgumentException", "java/lang/IllegalArgumentException"), ("java/lang/IllegalStateException", "java/lang/IllegalStateException"), ("java/lang/IndexOutOfBoundsException", "java/lang/IndexOutOfBoundsException")]
def kStr : List (String × Nat × String) := [(RX8, 55, "x or y is not 0 to 29, or reach not 1 to 42"), (RX8, 65, "there are 8 nodes"), (RX8, 139, "times is not 1 to 10"), (RX8, 391, "no such node"), (RX8, 206, "what is not 0 to 15"), (RX8, 273, "what is not 0 to 12"), (RX8, 113, "both nodes are the same, or length is not 1 to 3"), (RX8, 127, "the queue is full"), (RX8, 76, "x or y is not 0 to 29"), (RX8, 398, "the node is sending"), (RX8, 94, "reach is not 1 to 42"), (RX8, 148, "bidder is not 0 to 4, channels not 1 to 63, or price not 1 to 999"), (RX8, 151, "there are 10 bids"), (RX8, 129, "slots is not 1 to 200"), (RX8, 134, "the slot would be above 2000"), (RX8, 208, "nth is below 0, or what is not 0 to 4"), (RX8, 393, "both nodes are the same"), (RX8, 244, "what is not 0 to 3"), (RX8, 323, "what is not 0 to 6"), (RX8, 277, "no frame of that number"), (RX8, 310, "senders is no set of nodes, or has that node")]
def kNc : List (String × String) := [("java/lang/IllegalArgumentException", "java/lang/IllegalStateException"), ("java/lang/IllegalArgumentException", "java/lang/IndexOutOfBoundsException"), ("java/lang/IllegalStateException", "java/lang/IllegalArgumentException"), ("java/lang/IllegalStateException", "java/lang/IndexOutOfBoundsException"), ("java/lang/IndexOutOfBoundsException", "java/lang/IllegalArgumentException"), ("java/lang/IndexOutOfBoundsException", "java/lang/IllegalStateException")]
def kDecl : List MethodName := [⟨"java/lang/RuntimeException", "<init>", "()V"⟩, ⟨"java/lang/RuntimeException", "<init>", "(Ljava/lang/String;)V"⟩, ⟨"java/lang/Exception", "<init>", "()V"⟩, ⟨"java/lang/Exception", "<init>", "(Ljava/lang/String;)V"⟩, ⟨"java/lang/Throwable", "<init>", "()V"⟩, ⟨"java/lang/Throwable", "<init>", "(Ljava/lang/String;)V"⟩]
def kAO : List FieldType := [.object "Sharedair$Node", .object "Sharedair$Frame", .array .int]
end
section
/-! M IS SOUND: what is shown of M is so of the machine -/
theorem tb_in {w : Cond} (i : Nat) (h : lw_tbl[i]? = some w) (g : goodWord w = true) : w ∈ TBg := List.mem_filter.mpr ⟨List.mem_of_getElem? h, g⟩
theorem tb_sub (ws : List Cond) (ps : List Nat) (hp : ws = ps.filterMap (fun i => lw_tbl[i]?)) (g : ws.all goodWord = true) : ∀ w ∈ ws, w ∈ TBg := fun w hw => List.mem_filter.mpr ⟨(goodIn_r ws ps hp g w hw).1, List.all_eq_true.mp g w hw⟩
theorem tb_good {w : Cond} (h : w ∈ TBg) : goodWord w = true := (List.mem_filter.mp h).2
/-- the slots of the cells from z on -/
def Sz (z : Nat) (H : Heap) : Nat := ((H.toList.drop z).map (·.slots.size)).sum
def Az (z : Nat) : Nat → Prop := fun q => z ≤ q
section FACTS
variable {p : Program} {l : Launch} {e : Env} {R : Room} {s : State} {m : MethodId} {args : Array Value} {below : List Frame} {meth : Method} {c : Code} {T : State} {H : Heap} {locs : List Loc} {cells slots : Nat} {Q : State → Prop}
theorem st_tight (X : Stand p l e R s m args below meth c T locs cells slots) : Stand p l e R s m args below meth c T locs (T.heap.size - s.heap.size) (Sz s.heap.size T.heap) := by
  have h1 : s.heap.size ≤ T.heap.size := X.same.2.1
  exact { X with same := ⟨X.same.1, X.same.2.1, (show T.heap.size ≤ s.heap.size + (T.heap.size - s.heap.size) by omega), X.same.2.2.2.1, Nat.le_refl _, X.same.2.2.2.2.2⟩ }
theorem st_split (X : Stand p l e R s m args below meth c T locs cells slots) {z : Nat} (hz : z ≤ s.heap.size) : Sz z T.heap = Sz z s.heap + Sz s.heap.size T.heap := by
  have h1 : s.heap.size ≤ T.heap.size := X.same.2.1
  have h6 : ∀ (a : Addr) (c9 : Cell), s.heap[a]? = some c9 → ∃ c', T.heap[a]? = some c' ∧ c'.slots.size = c9.slots.size := by
    intro a c9 h
    obtain ⟨c', g1, g2, g3, -⟩ := X.same.2.2.2.2.2 a c9 h
    exact ⟨c', g1, g3⟩
  have hm : (T.heap.toList.map (·.slots.size)).take s.heap.size = s.heap.toList.map (·.slots.size) := by
    apply List.ext_getElem?
    intro i
    by_cases hi : i < s.heap.size
    · rw [List.getElem?_take_of_lt hi, List.getElem?_map, List.getElem?_map, Array.getElem?_toList, Array.getElem?_toList]
      obtain ⟨c', g1, g2⟩ := h6 i _ (Array.getElem?_eq_getElem hi)
      rw [g1, Array.getElem?_eq_getElem hi]
      simp only [Option.map_some, Option.some.injEq]
      exact g2
    · rw [List.getElem?_eq_none (by rw [List.length_take]; omega), List.getElem?_eq_none (by rw [List.length_map, Array.length_toList]; omega)]
  unfold Sz
  rw [List.map_drop, List.map_drop, List.map_drop]
  have h2 : T.heap.toList.map (·.slots.size) = s.heap.toList.map (·.slots.size) ++ (T.heap.toList.map (·.slots.size)).drop s.heap.size := by
    rw [← hm, List.take_append_drop]
  have h3 : ((T.heap.toList.map (·.slots.size)).drop z) = (s.heap.toList.map (·.slots.size)).drop z ++ (T.heap.toList.map (·.slots.size)).drop s.heap.size := by
    conv => lhs; rw [h2]
    rw [List.drop_append_of_le_length (by rw [List.length_map, Array.length_toList]; exact hz)]
  rw [h3, List.sum_append]
theorem st_facts (X : Stand p l e R s m args below meth c T locs cells slots) {z : Nat} (hz : z ≤ s.heap.size) : s.heap.size ≤ T.heap.size ∧ T.heap.size ≤ s.heap.size + cells ∧ Sz z T.heap ≤ Sz z s.heap + slots := by
  have h1 : s.heap.size ≤ T.heap.size := X.same.2.1
  have h2 : T.heap.size ≤ s.heap.size + cells := X.same.2.2.1
  have h3 : Sz s.heap.size T.heap ≤ slots := X.same.2.2.2.2.1
  have h4 := st_split X hz
  exact ⟨h1, h2, by omega⟩
theorem w_facts {g : JFrame} {z : Nat} (hz : z ≤ s.heap.size) (k : s.heap.size ≤ H.size → H.size ≤ s.heap.size + cells → Sz z H ≤ Sz z s.heap + slots → W p l e R s m args below meth c H locs cells slots Q g) : W p l e R s m args below meth c H locs cells slots Q g := by
  intro T hT X
  obtain ⟨h1, h2, h3⟩ := st_facts X hz
  subst hT
  exact k h1 h2 h3 T rfl X
theorem x_facts {g : JFrame} {q : Addr} {z : Nat} (hz : z ≤ s.heap.size) (k : s.heap.size ≤ H.size → H.size ≤ s.heap.size + cells → Sz z H ≤ Sz z s.heap + slots → vx_W p l e R s m args below meth c H locs cells slots Q g q) : vx_W p l e R s m args below meth c H locs cells slots Q g q := by
  intro T hT X
  obtain ⟨h1, h2, h3⟩ := st_facts X hz
  subst hT
  exact k h1 h2 h3 T rfl X
end FACTS
section SOUND
variable (D : va_G) (AC : Nat → ClassId) (b z L : Nat) (xs : Nat → Int32)
def adr : Nat → Nat
  | 0 => b
  | k + 1 => z + k
def toV : MV → Value
  | .inl x => .int x
  | .inr (.inl r) => va_rf (r.map (adr b z))
  | .inr (.inr (.inl x)) => .long x
  | .inr (.inr (.inr x)) => .double x
def fV (h : Hp) (a ci k : Nat) : Value := match kF ci k with
  | 0 => .int (gI h a k)
  | 1 => va_rf ((gR h a k).map (adr b z))
  | 2 => .long (gL h a k)
  | _ => .double (gD h a k)
def kSz (ci : Nat) : Nat := ((kN[ci]?).map (fun q => q.2.2)).getD 0
def aV (h : Hp) (a t : Nat) : (Nat → Int32) ⊕ (Nat → Int64) ⊕ (Nat → UInt32) ⊕ (Nat → UInt64) ⊕ (Nat → Option Nat) := match kE t with
  | 0 => .inl (gI h a)
  | 1 => .inr (.inr (.inr (.inr (fun j => (gR h a j).map (adr b z)))))
  | 2 => .inr (.inl (gL h a))
  | _ => .inr (.inr (.inr (.inl (gD h a))))
def cE (h : Hp) (a : Nat) : va_E := if kd h a < 100 then .inr (kd h a, (List.range (kSz (kd h a))).map (fV b z h a (kd h a))) else .inl (AC (kd h a - 100), ln h a, aV b z h a (kd h a - 100))
/-- the world of a heap: the cells of the ids 1, 2, .. in their order -/
def wl (h : Hp) : va_W := (List.range (nx h - 1)).map (fun k => (z + k, cE AC b z h (k + 1)))
def tyL : List (ClassId × FieldType) := (List.range nA).map (fun t => (AC t, kA t))
theorem wl_get {h : Hp} {k : Nat} (hk : k + 1 < nx h) : (wl AC b z h)[k]? = some (z + k, cE AC b z h (k + 1)) := by
  unfold wl
  rw [List.getElem?_map, List.getElem?_range (by omega)]
  rfl
theorem wl_set {h h' : Hp} {k : Nat} {e' : va_E} (hk : k + 1 < nx h) (hn : nx h' = nx h) (he : cE AC b z h' (k + 1) = e') (ho : ∀ a, a ≠ k + 1 → cE AC b z h' a = cE AC b z h a) : (wl AC b z h).set k (z + k, e') = wl AC b z h' := by
  apply List.ext_getElem?
  intro i
  by_cases hi : i + 1 < nx h
  · rw [wl_get AC b z (h := h') (by rw [hn]; exact hi)]
    by_cases hik : i = k
    · subst hik
      rw [List.getElem?_set_self (by unfold wl; rw [List.length_map, List.length_range]; omega), he]
    · rw [List.getElem?_set_ne (fun q => hik q.symm), wl_get AC b z hi, ho (i + 1) (by omega)]
  · rw [List.getElem?_eq_none (by rw [List.length_set]; unfold wl; rw [List.length_map, List.length_range]; omega), List.getElem?_eq_none (by unfold wl; rw [List.length_map, List.length_range, hn]; omega)]
theorem wl_push {h h' : Hp} (h1 : 1 ≤ nx h) (hn : nx h' = nx h + 1) (ho : ∀ a, a < nx h → cE AC b z h' a = cE AC b z h a) : wl AC b z h' = wl AC b z h ++ [(z + (nx h - 1), cE AC b z h' (nx h))] := by
  apply List.ext_getElem?
  intro i
  have hlen : (wl AC b z h).length = nx h - 1 := by unfold wl; rw [List.length_map, List.length_range]
  rcases Nat.lt_trichotomy (i + 1) (nx h) with hi | hi | hi
  · rw [wl_get AC b z (h := h') (by omega), List.getElem?_append_left (by omega), wl_get AC b z hi, ho (i + 1) hi]
  · rw [wl_get AC b z (h := h') (by omega), List.getElem?_append_right (by omega), hlen, show i - (nx h - 1) = 0 by omega, show nx h - 1 = i by omega, hi]
    rfl
  · rw [List.getElem?_eq_none (by unfold wl; rw [List.length_map, List.length_range, hn]; omega), List.getElem?_eq_none (by rw [List.length_append, hlen]; simp; omega)]
theorem wl_D (h : Hp) : va_D (Az z) (wl AC b z h) := by
  have key : ∀ (k : Nat) (q : Nat × va_E), (wl AC b z h)[k]? = some q → q.1 = z + k := by
    intro k q hq
    have hk : k + 1 < nx h := by
      have := (List.getElem?_eq_some_iff.mp hq).1
      unfold wl at this
      rw [List.length_map, List.length_range] at this
      omega
    rw [wl_get AC b z hk] at hq
    rw [← Option.some.inj hq]
  refine ⟨fun i j p q hi hj hpq => ?_, fun k q hq => ?_⟩
  · have := key i p hi
    have := key j q hj
    omega
  · show z ≤ q.1
    rw [key k q hq]
    omega
theorem wl_size {h : Hp} {H : Heap} (hP : va_P D kN (wl AC b z h) H) (h1 : 1 ≤ nx h) (hz : z ≤ H.size) : z + nx h ≤ H.size + 1 := by
  by_cases h2 : nx h = 1
  · omega
  · have := (hP (nx h - 2) _ (wl_get AC b z (h := h) (k := nx h - 2) (by omega))).lt
    have e : z + (nx h - 2) < H.size := this
    omega
/-- locals that hold what M's locals say -/
def LR (ls : Lo) (lsR : Array Slot) (n : Nat) : Prop := lsR.size = n ∧ lv_wf lsR ∧ ∀ (k : Nat) (v : MV), ls[k]? = some (some v) → lsR[k]? = some (.val (toV b z v))
def lvl (ls : Lo) : List (Nat × Value) := (List.range ls.length).filterMap (fun k => match ls[k]? with
  | some (some v) => some (k, toV b z v)
  | _ => none)
theorem lvl_mem {ls : Lo} {q : Nat × Value} : q ∈ lvl b z ls ↔ ∃ v, ls[q.1]? = some (some v) ∧ q.2 = toV b z v := by
  unfold lvl
  rw [List.mem_filterMap]
  constructor
  · rintro ⟨k, hk, hq⟩
    cases h : ls[k]? with
    | none => rw [h] at hq; cases hq
    | some o =>
      cases o with
      | none => rw [h] at hq; cases hq
      | some v =>
        rw [h] at hq
        cases Option.some.inj hq
        exact ⟨v, h, rfl⟩
  · rintro ⟨v, hv, hq⟩
    refine ⟨q.1, List.mem_range.mpr (List.getElem?_eq_some_iff.mp hv).1, ?_⟩
    rw [hv]
    show some (q.1, toV b z v) = some q
    rw [← hq]
theorem LR_has {ls : Lo} {lsR : Array Slot} {n : Nat} (h : LR b z ls lsR n) : lv_has lsR n (lvl b z ls) := by
  refine ⟨h.1, h.2.1, fun q hq => ?_⟩
  obtain ⟨v, hv, e⟩ := (lvl_mem b z).mp hq
  rw [e]
  exact h.2.2 q.1 v hv
theorem cat_toV (v : MV) : (toV b z v).category = catV v := by
  rcases v with x | r | x | x
  · rfl
  · cases r <;> rfl
  · rfl
  · rfl
theorem lKill_at {ls : Lo} {i k : Nat} {v : MV} (h : (lKill ls i)[k]? = some (some v)) : ls[k]? = some (some v) ∧ ¬ (k + 1 = i ∧ isWide v = true) := by
  cases i with
  | zero => exact ⟨h, fun q => by omega⟩
  | succ j =>
    unfold lKill at h
    dsimp only at h
    cases hj : ls[j]? with
    | none =>
      rw [hj] at h
      dsimp only at h
      refine ⟨h, fun q => ?_⟩
      rw [show k = j by omega, hj] at h
      cases h
    | some o =>
      rw [hj] at h
      cases o with
      | none =>
        dsimp only at h
        refine ⟨h, fun q => ?_⟩
        rw [show k = j by omega, hj] at h
        cases Option.some.inj h
      | some w =>
        dsimp only at h
        by_cases hw : isWide w = true
        · rw [if_pos hw] at h
          by_cases hk : k = j
          · subst hk
            rw [List.getElem?_set_self (List.getElem?_eq_some_iff.mp hj).1] at h
            cases Option.some.inj h
          · rw [List.getElem?_set_ne (fun q => hk q.symm)] at h
            exact ⟨h, fun q => hk (by omega)⟩
        · rw [if_neg hw] at h
          refine ⟨h, fun q => ?_⟩
          rw [show k = j by omega, hj] at h
          cases Option.some.inj h
          exact hw q.2
theorem LR_set1 {ls : Lo} {lsR : Array Slot} {n i : Nat} {v : Value} {o : Option MV} (hv : ∀ w, o = some w → v = toV b z w) (h : lv_has lsR n ((i, v) :: (lvl b z ls).filter (fun q => !(q.1 == i) && !(q.1 + 1 == i && q.2.category == 2)))) : LR b z (lSet1 ls i o) lsR n := by
  refine ⟨h.1, h.2.1, fun k w hk => ?_⟩
  unfold lSet1 at hk
  by_cases hki : k = i
  · subst hki
    have hl := (List.getElem?_eq_some_iff.mp hk).1
    rw [List.length_set] at hl
    rw [List.getElem?_set_self hl] at hk
    rw [← hv w (Option.some.inj hk)]
    exact h.2.2 (k, v) List.mem_cons_self
  · rw [List.getElem?_set_ne (fun q => hki q.symm)] at hk
    obtain ⟨h1, h2⟩ := lKill_at hk
    refine h.2.2 (k, toV b z w) (List.mem_cons_of_mem _ (List.mem_filter.mpr ⟨(lvl_mem b z).mpr ⟨w, h1, rfl⟩, ?_⟩))
    simp only [Bool.and_eq_true, Bool.not_eq_true', beq_eq_false_iff_ne, ne_eq, Bool.and_eq_false_iff]
    refine ⟨hki, ?_⟩
    by_cases hk1 : k + 1 = i
    · right
      intro hc
      refine h2 ⟨hk1, ?_⟩
      rw [cat_toV] at hc
      unfold catV at hc
      cases hw : isWide w
      · rw [hw] at hc; cases hc
      · rfl
    · exact Or.inl hk1
theorem LR_set2 {ls : Lo} {lsR : Array Slot} {n i : Nat} {v : Value} {w0 : MV} (hv : v = toV b z w0) (h : lv_has lsR n ((i, v) :: (lvl b z ls).filter (fun q => !(q.1 == i) && (!(q.1 == i + 1) && !(q.1 + 1 == i && q.2.category == 2))))) : LR b z (lSet2 ls i w0) lsR n := by
  refine ⟨h.1, h.2.1, fun k w hk => ?_⟩
  unfold lSet2 at hk
  by_cases hki1 : k = i + 1
  · subst hki1
    have hl := (List.getElem?_eq_some_iff.mp hk).1
    rw [List.length_set] at hl
    rw [List.getElem?_set_self hl] at hk
    cases Option.some.inj hk
  · rw [List.getElem?_set_ne (fun q => hki1 q.symm)] at hk
    by_cases hki : k = i
    · subst hki
      have hl := (List.getElem?_eq_some_iff.mp hk).1
      rw [List.length_set] at hl
      rw [List.getElem?_set_self hl] at hk
      cases Option.some.inj (Option.some.inj hk)
      rw [← hv]
      exact h.2.2 (k, v) List.mem_cons_self
    · rw [List.getElem?_set_ne (fun q => hki q.symm)] at hk
      obtain ⟨h1, h2⟩ := lKill_at hk
      refine h.2.2 (k, toV b z w) (List.mem_cons_of_mem _ (List.mem_filter.mpr ⟨(lvl_mem b z).mpr ⟨w, h1, rfl⟩, ?_⟩))
      simp only [Bool.and_eq_true, Bool.not_eq_true', beq_eq_false_iff_ne, ne_eq, Bool.and_eq_false_iff]
      refine ⟨hki, hki1, ?_⟩
      by_cases hk1 : k + 1 = i
      · right
        intro hc
        refine h2 ⟨hk1, ?_⟩
        rw [cat_toV] at hc
        unfold catV at hc
        cases hw : isWide w
        · rw [hw] at hc; cases hc
        · rfl
      · exact Or.inl hk1
end SOUND
end
section
/-! the method's surroundings, what holds at each pc, how a method ends -/
section SOUND2
variable (l : Launch) (D : va_G) (AC : Nat → ClassId) (b z L : Nat) (xs : Nat → Int32)
def arO (ty : FieldType) (U : State) : Prop := (Cond.arrayOver ty).before #[] U = true
theorem arO.moved {ty : FieldType} {u U : State} (hvm : u.vm.Alike U.vm) (h : arO ty u) : arO ty U := by
  have h1 : (Cond.arrayOver ty).before #[] (u.setVm U.vm) = true := by rw [Cond.arrayOver_setVmC hvm]; exact h
  unfold arO
  simp only [Cond.before, Cond.holds, Cond.value] at h1 ⊢
  exact h1
/-- what a state gives from the claim's start on -/
def Env0 (s : State) : Prop := va_K D kN (tyL AC) s ∧ vx_Zq Bundle.tN "UNASSIGNED_STACK" Bundle.steD (Az z) s s.heap ∧ vx_Zq Bundle.tN "SUPPRESSED_SENTINEL" Bundle.listD (Az z) s s.heap ∧
  (∀ q ∈ kNest, va_Nw (.methodLinkNest q.1 q.2.1 q.2.2.1 q.2.2.2) s) ∧ (∀ q ∈ kCast, va_Nw (.castable q.1 q.2) s) ∧ (∀ q ∈ kDecl, va_Nw (.declares q) s) ∧ (∀ q ∈ kStr, ∃ sa, vk_R q.1 q.2.1 q.2.2 sa s) ∧ (∀ q ∈ kNc, va_Nc q.1 q.2 s) ∧
  (∀ ty ∈ kAO, arO ty s) ∧ va_X b L xs s s.heap ∧ b < z
theorem Env0.warm {s U : State} (hW : s.WarmedH U.vm) (hz : z ≤ s.heap.size) (hk : ∀ q : Nat, q < s.heap.size → ¬ Az z q → U.heap[q]? = s.heap[q]?) (h : Env0 D AC b z L xs s) : Env0 D AC b z L xs U := by
  obtain ⟨h1, h2, h3, h4, h5, h6, h7, h8, h9, h10, h11⟩ := h
  exact ⟨va_K.moved hW.alike h1, vx_Zq.moved hW.alike (h2.kept hk), vx_Zq.moved hW.alike (h3.kept hk), fun q hq => va_Nw.warmM hW (h4 q hq), fun q hq => va_Nw.warmC hW (h5 q hq), fun q hq => va_Nw.warmD hW (h6 q hq), fun q hq => by
    obtain ⟨sa, hsa⟩ := h7 q hq
    exact ⟨sa, vk_R.warm hW hsa⟩, fun q hq => va_Nc.moved hW.alike (h8 q hq), fun ty hq => arO.moved hW.alike (h9 ty hq), va_X.moved hW.alike (h10.kept (hk b (Nat.lt_of_lt_of_le h11 hz) (fun q => Nat.not_le.mpr h11 q))), h11⟩
/-- a method that stands at work -/
def Ctx (j : Nat) (p : Program) (R : Room) (s : State) (m : MethodId) (args : Array Value) (meth : Method) (c : Code) : Prop :=
  p.tables.exec = Jvm.exec ∧ c.code = mC j ∧ meth.sig.returnType = mR j ∧ c.maxLocals = mL j ∧ s.vm.findClass (mO j) = some m.cls ∧ (∀ w ∈ TBg, w.before args s = true) ∧ meth.locks = false ∧ meth.name = (mY j).name ∧
  c.exceptionTable.toList = tableOf (mH j) ∧ Env0 D AC b z L xs s ∧ z ≤ s.heap.size ∧ mF j ≤ R.frames ∧ mW j ≤ R.locals ∧ z + cM ≤ s.heap.size + R.cells ∧ sM ≤ Sz z s.heap + R.slots ∧ l.stackTraces = false
/-- the heap h within its bounds, the script in it -/
def Bd (h : Hp) : Prop := nx h ≤ cM + 1 ∧ sc h ≤ sM ∧ 1 ≤ nx h ∧ (∀ j, j < L → gI h 0 j = xs j) ∧ ln h 0 = L ∧ kd h 0 = 100
def Bg (s : State) (h : Hp) (cells slots : Nat) : Prop := s.heap.size + cells + 1 ≤ z + nx h ∧ Sz z s.heap + slots ≤ sc h ∧ Bd L xs h
def HB (H : Heap) (h : Hp) : Prop := H.size + 1 ≤ z + nx h ∧ Sz z H ≤ sc h ∧ Bd L xs h
/-- a return instruction that fits the answer -/
def RetOK (j pc : Nat) : Option MV → Prop
  | none => mR j = none ∧ decode (mC j) pc = .ok (.return_, 1)
  | some (.inl v) => (∃ ty, mR j = some ty ∧ narrow ty (.int v) = .int v) ∧ decode (mC j) pc = .ok (.ireturn, 1)
  | some (.inr (.inl _)) => (∃ rt, mR j = some rt ∧ ((∃ n, rt = .object n) ∨ ∃ t, rt = .array t)) ∧ decode (mC j) pc = .ok (.areturn, 1)
  | some (.inr (.inr (.inl _))) => mR j = some .long ∧ decode (mC j) pc = .ok (.lreturn, 1)
  | some (.inr (.inr (.inr _))) => mR j = some .double ∧ decode (mC j) pc = .ok (.dreturn, 1)
def Ends (j : Nat) (p : Program) (e : Env) (R : Room) (s : State) (m : MethodId) (args : Array Value) (below : List Frame) (meth : Method) (c : Code) (QQ : State → Prop) (Q : MRes → Hp → Prop) : Prop :=
  (∀ (v : Option MV) (h : Hp) (H : Heap) (locs : List Loc) (lsR : Array Slot) (cells slots pc : Nat), Q (.inl v) h → va_P D kN (wl AC b z h) H → va_S (Az z) s.heap H locs → Bg z L xs s h cells slots → RetOK j pc v →
    W p l e R s m args below meth c H locs cells slots QQ (F0 m pc lsR (v.toList.map (toV b z)))) ∧
  (∀ (E : Nat) (nm : String) (h : Hp) (H : Heap) (locs : List Loc) (lsR : Array Slot) (cells slots pc : Nat) (rest : List Value) (q : Addr) (ce : Cell), Q (.inr E) h → kEx[E]? = some nm → va_P D kN (wl AC b z h) H → va_S (Az z) s.heap H locs → Bg z L xs s h cells slots →
    H[q]? = some ce → ce.vm = .none → s.vm.findClass nm = some ce.cls → (∀ x ∈ tableOf (mH j), covers x pc = false) → vx_W p l e R s m args below meth c H locs cells slots QQ (F0 m pc lsR rest) q)
/-- what M's judgement means of the machine -/
def RX : Jd := fun j pc ls st h Q => ∀ (p : Program) (e : Env) (R : Room) (s : State) (m : MethodId) (args : Array Value) (below : List Frame) (meth : Method) (c : Code) (QQ : State → Prop), Ctx l D AC b z L xs j p R s m args meth c → Ends l D AC b z L xs j p e R s m args below meth c QQ Q →
  ∀ (H : Heap) (locs : List Loc) (lsR : Array Slot) (cells slots : Nat), va_P D kN (wl AC b z h) H → va_S (Az z) s.heap H locs → Bg z L xs s h cells slots → LR b z ls lsR (mL j) →
  W p l e R s m args below meth c H locs cells slots QQ (F0 m pc lsR (st.map (toV b z)))
theorem RX_mono : MonX (RX l D AC b z L xs) := by
  intro j pc ls st h Q Q' hQ hX p e R s m args below meth c QQ C E
  exact hX p e R s m args below meth c QQ C ⟨fun v h2 H locs lsR cells slots pc q => E.1 v h2 H locs lsR cells slots pc (hQ _ _ q), fun Ec nm h2 H locs lsR cells slots pc rest q9 ce q => E.2 Ec nm h2 H locs lsR cells slots pc rest q9 ce (hQ _ _ q)⟩
def Snd (G : Pg) (j pc : Nat) (hd : Hd) : Prop := ∀ (ls : Lo) (st : Sk) (h : Hp) (Q : MRes → Hp → Prop), ndX G (RX l D AC b z L xs) j pc (hd ls st h) Q → RX l D AC b z L xs j pc ls st h Q
/-- a callee's end, told to the caller -/
def QcM (Q : MRes → Hp → Prop) : Array Value → State → Outcome → State → Prop := fun _ st o t => ∃ (v : Option MV) (h2 : Hp), o = .returned (v.map (toV b z)) ∧ Q (.inl v) h2 ∧ va_P D kN (wl AC b z h2) t.heap ∧ va_F (Az z) st t ∧ HB z L xs t.heap h2
def XcM (Q : MRes → Hp → Prop) : String → State → State → Prop := fun nm st t => ∃ (E : Nat) (h2 : Hp), kEx[E]? = some nm ∧ Q (.inr E) h2 ∧ va_P D kN (wl AC b z h2) t.heap ∧ va_F (Az z) st t ∧ HB z L xs t.heap h2
/-- the word of a method's code, and its words -/
def mCw (j : Nat) : Cond := match mH j with
  | [] => .code (mY j) (mC j) (mL j) (mR j)
  | _ => .codeWith (mY j) (mC j) (mL j) (mR j) (mH j)
def mWs (j : Nat) : List Cond := mCw j :: TBg
def mRm (j : Nat) (H : Heap) : Room := { frames := mF j, cells := z + cM - H.size, slots := sM - Sz z H, locals := mW j }
def PcM (as : List MV) (H : Heap) : Array Value → State → Prop := va_Pc (as.map (toV b z)) (fun U => U.heap = H ∧ Env0 D AC b z L xs U)
theorem PcM_blind {as : List MV} {H : Heap} (hz : z ≤ H.size) : FrameBlind (PcM D AC b z L xs as H) := by
  intro a U g mk ⟨h1, h2, h3⟩
  refine ⟨h1, h2, ?_⟩
  exact Env0.warm D AC b z L xs (s := U) (U := U.calling g mk a) (State.WarmedH.refl U) (by rw [h2]; exact hz) (fun _ _ _ => rfl) h3
theorem ends_met {j : Nat} {p : Program} {e : Env} {R : Room} {s : State} {m : MethodId} {args : Array Value} {below : List Frame} {meth : Method} {c : Code} {Q : MRes → Hp → Prop} (C : Ctx l D AC b z L xs j p R s m args meth c) {mc ms : Nat} (hmc : mc = z + cM - s.heap.size) (hms : ms = sM - Sz z s.heap) :
    Ends l D AC b z L xs j p e R s m args below meth c (vx_MQ below (QcM D AC b z L xs Q) (XcM D AC b z L xs Q) args s mc ms (Az z)) Q := by
  obtain ⟨hx, hb, hr, hml, hown, hts, hlocks, hnm, htab, hE, hz, -⟩ := C
  refine ⟨fun v h H locs lsR cells slots pc hq hP hS hB hret => ?_, fun E nm h H locs lsR cells slots pc rest q ce hq hnm hP hS hB hce hcv hcl hout => ?_⟩
  · refine w_facts hz fun f1 f2 f3 => ?_
    obtain ⟨b1, b2, b3⟩ := hB
    obtain ⟨b4, b5, b6⟩ := id b3
    have hc : cells ≤ mc := by omega
    have hs : slots ≤ ms := by omega
    have hb9 : HB z L xs H h := ⟨by omega, by omega, b3⟩
    have hf : ∀ q ∈ locs, Az z q.base := hS.2.2
    refine vx_ret (W.widen hc hs ?_)
    have hq9 : ∀ (o : Option Value), o = v.map (toV b z) → ∀ t : State, t.heap = H → s.WarmedH t.vm → QcM D AC b z L xs Q args s (.returned o) t := fun o ho t ht hW => ⟨v, h, by rw [ho], hq, by rw [ht]; exact hP, hS.F ht, by rw [ht]; exact hb9⟩
    rcases v with _ | (v | (r | (v | v)))
    · exact W.vret hx hb (hr.trans hret.1) (hq9 _ rfl) hf hret.2 hlocks
    · obtain ⟨⟨ty, h1, h2⟩, h3⟩ := hret
      exact W.zret hx hb (hr.trans h1) h2 (hq9 _ rfl) hf h3 hlocks
    · obtain ⟨⟨rt, h1, h2⟩, h3⟩ := hret
      refine W.aret (v := toV b z (.inr (.inl r))) hx hb (hr.trans h1) h2 ?_ (hq9 _ rfl) hf h3 hlocks
      cases r with
      | none => exact Or.inl rfl
      | some a => exact Or.inr ⟨_, rfl⟩
    · exact W.lret hx hb (hr.trans hret.1) (hq9 _ rfl) hf hret.2 hlocks
    · exact W.dret hx hb (hr.trans hret.1) (hq9 _ rfl) hf hret.2 hlocks
  · refine x_facts hz fun f1 f2 f3 => ?_
    obtain ⟨b1, b2, b3⟩ := hB
    obtain ⟨b4, b5, b6⟩ := id b3
    exact vx_out (E := nm) (by rw [htab]; exact hout) hlocks hce hcv hcl (fun t ht hW => ⟨E, h, hnm, hq, by rw [ht]; exact hP, hS.F ht, by rw [ht]; exact ⟨by omega, by omega, b3⟩⟩) hS.2.2 (by omega) (by omega)
theorem cat_len (as : List MV) : (lg_sl (as.map (toV b z))).length = catS as := by
  induction as with
  | nil => rfl
  | cons v vs ih =>
    have e : lg_sl ((v :: vs).map (toV b z)) = (if (toV b z v).category = 2 then [Slot.val (toV b z v), Slot.second] else [Slot.val (toV b z v)]) ++ lg_sl (vs.map (toV b z)) := rfl
    rw [e, List.length_append, ih, cat_toV]
    show _ = catV v + catS vs
    unfold catV
    cases isWide v <;> rfl
theorem eArgs_at : ∀ (as : List MV) (pre k : Nat) (v : MV), (eArgs as)[k]? = some (some v) → (pre + k, toV b z v) ∈ lv_args pre (as.map (toV b z))
  | [], pre, k, v, h => by simp [eArgs] at h
  | a :: as, pre, k, v, h => by
    have hl : lv_args pre ((a :: as).map (toV b z)) = (pre, toV b z a) :: lv_args (if (toV b z a).category = 2 then pre + 2 else pre + 1) (as.map (toV b z)) := rfl
    rw [hl]
    have one : isWide a = false → eArgs (a :: as) = some a :: eArgs as := by
      intro hw
      rcases a with x | r | x
      · rfl
      · rfl
      · cases hw
    have two : isWide a = true → eArgs (a :: as) = some a :: none :: eArgs as := by
      intro hw
      rcases a with x | r | x
      · cases hw
      · cases hw
      · rfl
    cases hw : isWide a with
    | false =>
      rw [one hw] at h
      have hc : ¬ (toV b z a).category = 2 := by rw [cat_toV]; unfold catV; rw [hw]; decide
      rw [if_neg hc]
      cases k with
      | zero =>
        rw [List.getElem?_cons_zero] at h
        cases Option.some.inj (Option.some.inj h)
        exact List.mem_cons_self
      | succ k =>
        rw [List.getElem?_cons_succ] at h
        have := eArgs_at as (pre + 1) k v h
        rw [show pre + (k + 1) = pre + 1 + k by omega]
        exact List.mem_cons_of_mem _ this
    | true =>
      rw [two hw] at h
      have hc : (toV b z a).category = 2 := by rw [cat_toV]; unfold catV; rw [hw]; rfl
      rw [if_pos hc]
      cases k with
      | zero =>
        rw [List.getElem?_cons_zero] at h
        cases Option.some.inj (Option.some.inj h)
        exact List.mem_cons_self
      | succ k =>
        rw [List.getElem?_cons_succ] at h
        cases k with
        | zero =>
          rw [List.getElem?_cons_zero] at h
          cases Option.some.inj h
        | succ k =>
          rw [List.getElem?_cons_succ] at h
          have := eArgs_at as (pre + 2) k v h
          rw [show pre + (k + 1 + 1) = pre + 2 + k by omega]
          exact List.mem_cons_of_mem _ this
theorem LR_entry {as : List MV} {n : Nat} (h : catS as ≤ n) : LR b z (entL as n) ((lg_sl (as.map (toV b z)) ++ List.replicate (n - (lg_sl (as.map (toV b z))).length) Slot.unset).toArray) n := by
  obtain ⟨h1, h2, h3⟩ := lv_entry (as.map (toV b z)) (n := n) (by rw [cat_len]; exact h)
  refine ⟨h1, h2, fun k v hk => ?_⟩
  unfold entL at hk
  by_cases hl : k < (eArgs as).length
  · rw [List.getElem?_append_left hl] at hk
    have := eArgs_at b z as 0 k v hk
    rw [Nat.zero_add] at this
    exact h3 _ this
  · rw [List.getElem?_append_right (by omega)] at hk
    have := List.eq_of_mem_replicate (List.mem_of_getElem? hk)
    cases this
/-- a method whose words stand: its code's word good and in the tables, its class a plain name -/
def MOK (j : Nat) : Prop := plainName (mY j).cls = true ∧ mO j = (mY j).cls ∧ mCw j ∈ TBg
theorem met_of {j : Nat} (hj : MOK j) (hl : l.stackTraces = false) {as : List MV} (hcat : catS as ≤ mL j) {h : Hp} {Q : MRes → Hp → Prop} (hR : RX l D AC b z L xs j 0 (entL as (mL j)) [] h Q) {H : Heap} (hP : va_P D kN (wl AC b z h) H) (hB : HB z L xs H h) (hz : z ≤ H.size) :
    vx_Met l (mY j) (mWs j) (mRm z j H) (PcM D AC b z L xs as H) (QcM D AC b z L xs Q) (XcM D AC b z L xs Q) (z + cM - H.size) (sM - Sz z H) (Az z) := by
  have main : ∀ (p : Program) (e : Env) (s : State) (m : MethodId) (args : Array Value) (below : List Frame) (meth : Method) (c : Code) (s₁ : State), BodyLoose p l (mY j) (headSpec (mWs j) (mRm z j H)) (mC j) (mL j) (mR j) e s m args below meth c s₁ → c.maxLocals = mL j → c.exceptionTable.toList = tableOf (mH j) → PcM D AC b z L xs as H args s →
      W p l e (headSpec (mWs j) (mRm z j H)).room s m args below meth c s.heap [] 0 0 (vx_MQ below (QcM D AC b z L xs Q) (XcM D AC b z L xs Q) args s (z + cM - H.size) (sM - Sz z H) (Az z)) (entryFrame m args (mL j)) := by
    intro p e s m args below meth c s₁ B hml htab hPc
    obtain ⟨rfl, hH, hE⟩ := hPc
    obtain ⟨b1, b2, b3⟩ := id hB
    obtain ⟨b4, b5, b6⟩ := id b3
    have hts : ∀ w ∈ mWs j, w.before (as.map (toV b z)).toArray s = true := atoms_spec (ws := mWs j) B.pre
    have hown : s.vm.findClass (mY j).cls = some m.cls := findClass_of_methodNamed B.named
    have hCtx : Ctx l D AC b z L xs j p (headSpec (mWs j) (mRm z j H)).room s m (as.map (toV b z)).toArray meth c :=
      ⟨B.exec, B.bytes, B.returns, hml, by rw [hj.2.1]; exact hown, fun w hw => hts w (List.mem_cons_of_mem _ hw), B.notSynchronized, (name_of_methodNamed B.named B.method).1, htab, hE, by rw [hH]; exact hz, Nat.le_refl _, Nat.le_refl _, by
        show z + cM ≤ s.heap.size + (z + cM - H.size)
        rw [hH]; omega, by
        show sM ≤ Sz z s.heap + (sM - Sz z H)
        rw [hH]; omega, hl⟩
    rw [lg_entry_eq]
    refine hR p e _ s m _ below meth c _ hCtx (ends_met l D AC b z L xs hCtx (by rw [hH]) (by rw [hH])) s.heap [] _ 0 0 (by rw [hH]; exact hP) va_S.rf ⟨by rw [hH]; omega, by rw [hH]; omega, b3⟩ (LR_entry b z hcat)
  by_cases hh : mH j = []
  · have hcw : mCw j = Cond.code (mY j) (mC j) (mL j) (mR j) := by unfold mCw; rw [hh]
    refine vx_ofW (cc := mC j) (maxL := mL j) (ret := mR j) hj.1 (show mWs j = _ :: TBg by unfold mWs; rw [hcw]) ?_
    intro p e s m args below meth c s₁ B hml ht hPc
    refine main p e s m args below meth c s₁ B hml ?_ hPc
    rw [hh]
    cases hl2 : c.exceptionTable.toList with
    | nil => rfl
    | cons x r => exact absurd (ht x (by rw [hl2]; exact List.mem_cons_self)) id
  · have hcw : mCw j = Cond.codeWith (mY j) (mC j) (mL j) (mR j) (mH j) := by
      unfold mCw
      cases hm : mH j with
      | nil => exact absurd hm hh
      | cons x r => rfl
    refine vx_ofWH (cc := mC j) (maxL := mL j) (ret := mR j) (hh := mH j) hj.1 (show mWs j = _ :: TBg by unfold mWs; rw [hcw]) ?_
    intro p e s m args below meth c s₁ B hml hPc
    refine main p e s m args below meth c s₁ B hml ?_ hPc
    have hts : ∀ w ∈ mWs j, w.before args s = true := atoms_spec (ws := mWs j) B.pre
    exact vx_table (x := mY j) B (by rw [← hcw]; exact hts _ List.mem_cons_self)
end SOUND2
end
section
/-! EACH HANDLER IS SOUND (printed by wip/genops.py) -/
section MAKE
variable {p : Program} {l : Launch} {e : Env} {R : Room} {s : State} {m : MethodId} {args : Array Value} {below : List Frame} {meth : Method} {c : Code} {H : Heap} {locs : List Loc} {cells slots : Nat} {Q : State → Prop}
variable {ls : Array Slot} {rest : List Value} {D : va_G} {cl : List vw_C} {tys : List (ClassId × FieldType)} {ws : va_W}
theorem ms_makeS {cc : ByteArray} {pc : Nat} (hexec : p.tables.exec = Jvm.exec) (hb : c.code = cc) (hl : l.stackTraces = false) {own cls text : String} {names : List String} {ik is ic sa ci : Nat} {A : Nat → Prop} {T0 : u_T}
    (hown : s.vm.findClass own = some m.cls) (hcls : Bundle.fit cls = true) (hnames : ∀ n ∈ names, Bundle.fit n = true)
    (hk : (Cond.classLink own ik cls).before args s = true) (hini : (Cond.initialized cls).before args s = true) (hstr : vk_R own is text sa s) (hat : ∀ w ∈ vx_atS own ic cls names, w.before args s = true)
    (hgood : ∀ w ∈ Cond.classLink own ik cls :: Cond.initialized cls :: vx_atS own ic cls names, vx_ot w = true)
    (hU : vx_Zq Bundle.tN "UNASSIGNED_STACK" Bundle.steD A s s.heap) (hN : vx_Zq Bundle.tN "SUPPRESSED_SENTINEL" Bundle.listD A s s.heap) (hS : va_S A s.heap H locs) (hsize : ls.size = c.maxLocals)
    (d0 : decode cc pc = .ok (.new ik, 3)) (d3 : decode cc (pc + 3) = .ok (.dup, 1)) (d4 : decode cc (pc + 4) = .ok (.ldc is, 2)) (d6 : decode cc (pc + 6) = .ok (.invokespecial ic, 3))
    (hK : va_K D cl tys s) (hP : va_P D cl ws H) (hD : va_D A ws) (hA : ∀ q, s.heap.size ≤ q → A q) (hc : cl[ci]? = some (cls, T0, 0))
    (hRframes : names.length + 3 < R.frames) (hRlocals : (rest.map fun v => v.category).sum + (13 * (names.length + 1) + 43) ≤ R.locals) (hRcells : cells + 1 ≤ R.cells) (hRslots : slots + 6 ≤ R.slots)
    (kk : ∀ (H1 : Heap), va_P D cl (ws ++ [(H.size, .inr (ci, []))]) H1 → va_S A s.heap H1 locs → W p l e R s m args below meth c H1 locs (cells + 1) (slots + 6) Q (F0 m (pc + 9) ls (.ref H.size :: rest))) :
    W p l e R s m args below meth c H locs cells slots Q (F0 m pc ls rest) := by
  intro T hT X
  subst hT
  have htr : e.platform.stackTraces = false := (show e.platform.stackTraces = l.stackTraces by rw [X.admits.platform]).trans hl
  have Y := vx_rebase X (R' := { frames := R.frames, locals := R.locals, cells := 1, slots := 6 }) (Nat.le_refl _) (Nat.le_refl _) hRcells hRslots
  obtain ⟨s', hA'⟩ : ∃ z, z = (T.setVm s.vm).setFrames (.invoking m args :: below) := ⟨_, rfl⟩
  rw [← hA'] at Y
  have hvm : s'.vm = s.vm := by rw [hA']; rfl
  have hhp : s'.heap = T.heap := by rw [hA']; rfl
  have hW0 : s.WarmedH s'.vm := by rw [hvm]; exact State.WarmedH.refl s
  have hat' : ∀ w ∈ vx_atS own ic cls names, w.before args s' = true := fun w hw => vx_ot_at hW0 hvm.symm (hgood w (List.mem_cons_of_mem _ (List.mem_cons_of_mem _ hw))) (hat w hw)
  have hk' : (Cond.classLink own ik cls).before args s' = true := vx_ot_at hW0 hvm.symm (hgood _ List.mem_cons_self) hk
  have hini' : (Cond.initialized cls).before args s' = true := vx_ot_at hW0 hvm.symm (hgood _ (List.mem_cons_of_mem _ List.mem_cons_self)) hini
  have hU' : vx_Zq Bundle.tN "UNASSIGNED_STACK" Bundle.steD A s' s'.heap := by rw [hhp]; exact vx_Zq.moved hW0.alike (hU.kept hS.2.1)
  have hN' : vx_Zq Bundle.tN "SUPPRESSED_SENTINEL" Bundle.listD A s' s'.heap := by rw [hhp]; exact vx_Zq.moved hW0.alike (hN.kept hS.2.1)
  have h : ∀ w ∈ Bundle.ownAtoms own ic cls names, w.before args s' = true := vx_own hat' (vx_isRefq hU'.1) (vx_isRefq hN'.1) hU'.2.word hN'.2.word
  have hown' : s'.vm.findClass own = some m.cls := by rw [hvm]; exact hown
  have hins : (Cond.instantiable cls 6).before args s' = true := h _ (by simp [Bundle.ownAtoms])
  obtain ⟨vm₁, cX, kX, hfX, hkX, -, -, X₁, st1⟩ := Y.newCold hexec (own := own) (C := cls) (index := ik) (n := 6) hown' hk' hins hini'
    (g := F0 m pc ls rest) rfl (by rw [hb]; exact d0) (Nat.le_refl _) (Nat.le_refl _)
  generalize hT1 : (T.setVm vm₁).pushCell { cls := cX, slots := kX.instanceTypes.map defaultValue, vm := .none } = T1 at X₁ st1
  have hcat : (Value.ref T.heap.size).category = 1 := rfl
  have hcellA : T1.heap[T.heap.size]? = some (freshCell cX kX) := by rw [← hT1]; exact State.heap_pushCell_size _ _
  have d3' : decode c.code (pc + 3) = .ok (.dup, 1) := by rw [hb]; exact d3
  have d4' : decode c.code (pc + 4) = .ok (.ldc is, 2) := by rw [hb]; exact d4
  have hstr' : vk_R own is text sa s' := vk_R.warm hW0 hstr
  obtain ⟨V, ce, L, Z, hL, hlt, hcl9, hvm9, st⟩ := vx_ctorMadeS X₁ hexec htr (own := own) (cls := cls) (names := names) (ic := ic) hown' hcls hnames h (fun x hx => nomatch hx) hfX hkX hcellA (by rw [hhp]; exact Nat.le_refl _) (msg := .ref sa) rfl
    (g := { method := m, pc := pc + 6, locals := ls, stack := .ref sa :: .ref T.heap.size :: .ref T.heap.size :: rest, locked := none }) rfl hsize (rest := rest) rfl
    (by rw [hb]; exact d6) hRframes (by simp only [List.map_cons, List.sum_cons, hcat]; omega)
  have Z0 := Stand.forget (locs := []) Z (fun y hy => by rw [hL y hy, hhp]; exact Nat.le_refl _)
  obtain ⟨f1, f2⟩ := vx_frame Z0.same
  rw [hhp] at f1 f2
  have hcid : ce.cls = D.1 ci := by
    rw [hcl9]
    have h1 := (hK.1 ci _ hc).2.1
    rw [hvm] at hfX
    exact Option.some.inj (hfX.symm.trans h1)
  have hh : (V.setCell T.heap.size ce).heap[T.heap.size]? = some ce := heapAt_setCell_self (s := V) ce hlt
  subst hA'
  have X5 := vx_back9 X Y Z0
  have X6 : Stand p l e R s m args below meth c (V.setCell T.heap.size ce) locs (cells + 1) (slots + 6) := { X5 with same := X5.same.mono (by omega) (by omega) }
  have hk9 : ∀ (k : Nat) (x : Nat × va_E), ws[k]? = some x → (V.setCell T.heap.size ce).heap[x.1]? = T.heap[x.1]? := fun k x hx => f2 x.1 ((hP k x hx).lt) (fun z hz => nomatch hz)
  obtain ⟨t, a1, b1⟩ := kk (V.setCell T.heap.size ce).heap ((hP.kept hk9).app (fun k x hx => by
      have hz : k < 1 := (List.getElem?_eq_some_iff.mp hx).1
      rw [show k = 0 by omega] at hx
      cases hx
      exact ⟨_, hc, ce, hh, hcid, hvm9, fun k hk => absurd hk (Nat.not_lt_zero k)⟩)) ⟨Nat.le_trans hS.1 f1, fun q h1 h2 => (f2 q (Nat.lt_of_lt_of_le h1 hS.1) (fun z hz => nomatch hz)).trans (hS.2.1 q h1 h2), hS.2.2⟩ _ rfl X6
  refine ⟨t, st1 _ ?_, b1⟩
  show Steps p.tables e below (T1.setTop { method := m, pc := pc + 3, locals := ls, stack := .ref T.heap.size :: rest, locked := none }) _
  jvm_step X₁.here [X₁.here.top, hexec, d3', Value.category]
  exact X₁.ldcString hexec (own := own) (text := text) (index := is) (a := sa) hown' hstr'.1 hstr'.2
    (g := { method := m, pc := pc + 4, locals := ls, stack := .ref T.heap.size :: .ref T.heap.size :: rest, locked := none }) rfl d4' _ (st _ a1)

theorem ms_makeW {cc : ByteArray} {pc : Nat} (hexec : p.tables.exec = Jvm.exec) (hb : c.code = cc) (hl : l.stackTraces = false) {own cls text : String} {names : List String} {ik is ic sa ci : Nat} {A : Nat → Prop} {T0 : u_T}
    (hown : s.vm.findClass own = some m.cls) (hcls : Bundle.fit cls = true) (hnames : ∀ n ∈ names, Bundle.fit n = true)
    (hk : (Cond.classLink own ik cls).before args s = true) (hini : (Cond.initialized cls).before args s = true) (hstr : vk_R own is text sa s) (hat : ∀ w ∈ vx_atS own ic cls names, w.before args s = true)
    (hgood : ∀ w ∈ Cond.classLink own ik cls :: Cond.initialized cls :: vx_atS own ic cls names, vx_ot w = true)
    (hU : vx_Zq Bundle.tN "UNASSIGNED_STACK" Bundle.steD A s s.heap) (hN : vx_Zq Bundle.tN "SUPPRESSED_SENTINEL" Bundle.listD A s s.heap) (hS : va_S A s.heap H locs) (hsize : ls.size = c.maxLocals)
    (d0 : decode cc pc = .ok (.new ik, 3)) (d3 : decode cc (pc + 3) = .ok (.dup, 1)) (d4 : decode cc (pc + 4) = .ok (.ldc_w is, 3)) (d6 : decode cc (pc + 7) = .ok (.invokespecial ic, 3))
    (hK : va_K D cl tys s) (hP : va_P D cl ws H) (hD : va_D A ws) (hA : ∀ q, s.heap.size ≤ q → A q) (hc : cl[ci]? = some (cls, T0, 0))
    (hRframes : names.length + 3 < R.frames) (hRlocals : (rest.map fun v => v.category).sum + (13 * (names.length + 1) + 43) ≤ R.locals) (hRcells : cells + 1 ≤ R.cells) (hRslots : slots + 6 ≤ R.slots)
    (kk : ∀ (H1 : Heap), va_P D cl (ws ++ [(H.size, .inr (ci, []))]) H1 → va_S A s.heap H1 locs → W p l e R s m args below meth c H1 locs (cells + 1) (slots + 6) Q (F0 m (pc + 10) ls (.ref H.size :: rest))) :
    W p l e R s m args below meth c H locs cells slots Q (F0 m pc ls rest) := by
  intro T hT X
  subst hT
  have htr : e.platform.stackTraces = false := (show e.platform.stackTraces = l.stackTraces by rw [X.admits.platform]).trans hl
  have Y := vx_rebase X (R' := { frames := R.frames, locals := R.locals, cells := 1, slots := 6 }) (Nat.le_refl _) (Nat.le_refl _) hRcells hRslots
  obtain ⟨s', hA'⟩ : ∃ z, z = (T.setVm s.vm).setFrames (.invoking m args :: below) := ⟨_, rfl⟩
  rw [← hA'] at Y
  have hvm : s'.vm = s.vm := by rw [hA']; rfl
  have hhp : s'.heap = T.heap := by rw [hA']; rfl
  have hW0 : s.WarmedH s'.vm := by rw [hvm]; exact State.WarmedH.refl s
  have hat' : ∀ w ∈ vx_atS own ic cls names, w.before args s' = true := fun w hw => vx_ot_at hW0 hvm.symm (hgood w (List.mem_cons_of_mem _ (List.mem_cons_of_mem _ hw))) (hat w hw)
  have hk' : (Cond.classLink own ik cls).before args s' = true := vx_ot_at hW0 hvm.symm (hgood _ List.mem_cons_self) hk
  have hini' : (Cond.initialized cls).before args s' = true := vx_ot_at hW0 hvm.symm (hgood _ (List.mem_cons_of_mem _ List.mem_cons_self)) hini
  have hU' : vx_Zq Bundle.tN "UNASSIGNED_STACK" Bundle.steD A s' s'.heap := by rw [hhp]; exact vx_Zq.moved hW0.alike (hU.kept hS.2.1)
  have hN' : vx_Zq Bundle.tN "SUPPRESSED_SENTINEL" Bundle.listD A s' s'.heap := by rw [hhp]; exact vx_Zq.moved hW0.alike (hN.kept hS.2.1)
  have h : ∀ w ∈ Bundle.ownAtoms own ic cls names, w.before args s' = true := vx_own hat' (vx_isRefq hU'.1) (vx_isRefq hN'.1) hU'.2.word hN'.2.word
  have hown' : s'.vm.findClass own = some m.cls := by rw [hvm]; exact hown
  have hins : (Cond.instantiable cls 6).before args s' = true := h _ (by simp [Bundle.ownAtoms])
  obtain ⟨vm₁, cX, kX, hfX, hkX, -, -, X₁, st1⟩ := Y.newCold hexec (own := own) (C := cls) (index := ik) (n := 6) hown' hk' hins hini'
    (g := F0 m pc ls rest) rfl (by rw [hb]; exact d0) (Nat.le_refl _) (Nat.le_refl _)
  generalize hT1 : (T.setVm vm₁).pushCell { cls := cX, slots := kX.instanceTypes.map defaultValue, vm := .none } = T1 at X₁ st1
  have hcat : (Value.ref T.heap.size).category = 1 := rfl
  have hcellA : T1.heap[T.heap.size]? = some (freshCell cX kX) := by rw [← hT1]; exact State.heap_pushCell_size _ _
  have d3' : decode c.code (pc + 3) = .ok (.dup, 1) := by rw [hb]; exact d3
  have d4' : decode c.code (pc + 4) = .ok (.ldc_w is, 3) := by rw [hb]; exact d4
  have hstr' : vk_R own is text sa s' := vk_R.warm hW0 hstr
  obtain ⟨V, ce, L, Z, hL, hlt, hcl9, hvm9, st⟩ := vx_ctorMadeS X₁ hexec htr (own := own) (cls := cls) (names := names) (ic := ic) hown' hcls hnames h (fun x hx => nomatch hx) hfX hkX hcellA (by rw [hhp]; exact Nat.le_refl _) (msg := .ref sa) rfl
    (g := { method := m, pc := pc + 7, locals := ls, stack := .ref sa :: .ref T.heap.size :: .ref T.heap.size :: rest, locked := none }) rfl hsize (rest := rest) rfl
    (by rw [hb]; exact d6) hRframes (by simp only [List.map_cons, List.sum_cons, hcat]; omega)
  have Z0 := Stand.forget (locs := []) Z (fun y hy => by rw [hL y hy, hhp]; exact Nat.le_refl _)
  obtain ⟨f1, f2⟩ := vx_frame Z0.same
  rw [hhp] at f1 f2
  have hcid : ce.cls = D.1 ci := by
    rw [hcl9]
    have h1 := (hK.1 ci _ hc).2.1
    rw [hvm] at hfX
    exact Option.some.inj (hfX.symm.trans h1)
  have hh : (V.setCell T.heap.size ce).heap[T.heap.size]? = some ce := heapAt_setCell_self (s := V) ce hlt
  subst hA'
  have X5 := vx_back9 X Y Z0
  have X6 : Stand p l e R s m args below meth c (V.setCell T.heap.size ce) locs (cells + 1) (slots + 6) := { X5 with same := X5.same.mono (by omega) (by omega) }
  have hk9 : ∀ (k : Nat) (x : Nat × va_E), ws[k]? = some x → (V.setCell T.heap.size ce).heap[x.1]? = T.heap[x.1]? := fun k x hx => f2 x.1 ((hP k x hx).lt) (fun z hz => nomatch hz)
  obtain ⟨t, a1, b1⟩ := kk (V.setCell T.heap.size ce).heap ((hP.kept hk9).app (fun k x hx => by
      have hz : k < 1 := (List.getElem?_eq_some_iff.mp hx).1
      rw [show k = 0 by omega] at hx
      cases hx
      exact ⟨_, hc, ce, hh, hcid, hvm9, fun k hk => absurd hk (Nat.not_lt_zero k)⟩)) ⟨Nat.le_trans hS.1 f1, fun q h1 h2 => (f2 q (Nat.lt_of_lt_of_le h1 hS.1) (fun z hz => nomatch hz)).trans (hS.2.1 q h1 h2), hS.2.2⟩ _ rfl X6
  refine ⟨t, st1 _ ?_, b1⟩
  show Steps p.tables e below (T1.setTop { method := m, pc := pc + 3, locals := ls, stack := .ref T.heap.size :: rest, locked := none }) _
  jvm_step X₁.here [X₁.here.top, hexec, d3', Value.category]
  exact X₁.ldcStringW hexec (own := own) (text := text) (index := is) (a := sa) hown' hstr'.1 hstr'.2
    (g := { method := m, pc := pc + 4, locals := ls, stack := .ref T.heap.size :: .ref T.heap.size :: rest, locked := none }) rfl d4' _ (st _ a1)

end MAKE
section OPS
variable (l : Launch) (D : va_G) (AC : Nat → ClassId) (b z L : Nat) (xs : Nat → Int32) (G : Pg) {j pc : Nat}
theorem sn_iconst {n : Int} {v : Int32} (hd : decode (mC j) pc = .ok (.iconst n, 1)) (hv : Int32.ofInt n = v) : Snd l D AC b z L xs G j pc (oI v (pc + 1)) := by
  intro ls st h Q kk p e R s m args below meth c QQ C E H locs lsR cells slots hP hS hB hL
  exact lv_iconst C.1 C.2.1 hd hv (kk p e R s m args below meth c QQ C E H locs lsR cells slots hP hS hB hL)
theorem sn_bipush {n : Int} {v : Int32} (hd : decode (mC j) pc = .ok (.bipush n, 2)) (hv : (Int8.ofInt n).toInt32 = v) : Snd l D AC b z L xs G j pc (oI v (pc + 2)) := by
  intro ls st h Q kk p e R s m args below meth c QQ C E H locs lsR cells slots hP hS hB hL
  exact lv_bipush C.1 C.2.1 hd hv (kk p e R s m args below meth c QQ C E H locs lsR cells slots hP hS hB hL)
theorem sn_sipush {n : Int} {v : Int32} (hd : decode (mC j) pc = .ok (.sipush n, 3)) (hv : (Int16.ofInt n).toInt32 = v) : Snd l D AC b z L xs G j pc (oI v (pc + 3)) := by
  intro ls st h Q kk p e R s m args below meth c QQ C E H locs lsR cells slots hP hS hB hL
  exact lv_sipush C.1 C.2.1 hd hv (kk p e R s m args below meth c QQ C E H locs lsR cells slots hP hS hB hL)
theorem sn_ldc {i : Nat} {v : Int32} (hd : decode (mC j) pc = .ok (.ldc i, 2)) (hw : Cond.constant (mO j) i v ∈ TBg) : Snd l D AC b z L xs G j pc (oI v (pc + 2)) := by
  intro ls st h Q kk p e R s m args below meth c QQ C E H locs lsR cells slots hP hS hB hL
  exact lv_ldc C.1 C.2.1 C.2.2.2.2.1 (C.2.2.2.2.2.1 _ hw) hd (kk p e R s m args below meth c QQ C E H locs lsR cells slots hP hS hB hL)
theorem sn_ldcw {i : Nat} {v : Int32} (hd : decode (mC j) pc = .ok (.ldc_w i, 3)) (hw : Cond.constant (mO j) i v ∈ TBg) : Snd l D AC b z L xs G j pc (oI v (pc + 3)) := by
  intro ls st h Q kk p e R s m args below meth c QQ C E H locs lsR cells slots hP hS hB hL
  exact lv_ldcw C.1 C.2.1 C.2.2.2.2.1 (C.2.2.2.2.2.1 _ hw) hd (kk p e R s m args below meth c QQ C E H locs lsR cells slots hP hS hB hL)
theorem sn_ldc2 {i : Nat} {v : Int64} (hd : decode (mC j) pc = .ok (.ldc2_w i, 3)) (hw : Cond.constantLong (mO j) i v ∈ TBg) : Snd l D AC b z L xs G j pc (oJ v (pc + 3)) := by
  intro ls st h Q kk p e R s m args below meth c QQ C E H locs lsR cells slots hP hS hB hL
  exact lv_ldc2 C.1 C.2.1 C.2.2.2.2.1 (C.2.2.2.2.2.1 _ hw) hd (kk p e R s m args below meth c QQ C E H locs lsR cells slots hP hS hB hL)
theorem sn_ldc2d {i : Nat} {v : UInt64} (hd : decode (mC j) pc = .ok (.ldc2_w i, 3)) (hw : Cond.constantDouble (mO j) i v ∈ TBg) : Snd l D AC b z L xs G j pc (oF v (pc + 3)) := by
  intro ls st h Q kk p e R s m args below meth c QQ C E H locs lsR cells slots hP hS hB hL
  exact lv_ldc2d C.1 C.2.1 C.2.2.2.2.1 (C.2.2.2.2.2.1 _ hw) hd (kk p e R s m args below meth c QQ C E H locs lsR cells slots hP hS hB hL)
theorem sn_lconst {n : Fin 2} {v : Int64} (hd : decode (mC j) pc = .ok (.lconst n, 1)) (hv : Int64.ofNat (n : Nat) = v) : Snd l D AC b z L xs G j pc (oJ v (pc + 1)) := by
  intro ls st h Q kk p e R s m args below meth c QQ C E H locs lsR cells slots hP hS hB hL
  exact lv_lconst C.1 C.2.1 hd hv (kk p e R s m args below meth c QQ C E H locs lsR cells slots hP hS hB hL)
theorem sn_dconst0 (hd : decode (mC j) pc = .ok (.dconst 0, 1)) : Snd l D AC b z L xs G j pc (oF FP.dconst0 (pc + 1)) := by
  intro ls st h Q kk p e R s m args below meth c QQ C E H locs lsR cells slots hP hS hB hL
  exact lv_dconst0 C.1 C.2.1 hd (kk p e R s m args below meth c QQ C E H locs lsR cells slots hP hS hB hL)
theorem sn_dconst1 (hd : decode (mC j) pc = .ok (.dconst 1, 1)) : Snd l D AC b z L xs G j pc (oF FP.dconst1 (pc + 1)) := by
  intro ls st h Q kk p e R s m args below meth c QQ C E H locs lsR cells slots hP hS hB hL
  exact lv_dconst1 C.1 C.2.1 hd (kk p e R s m args below meth c QQ C E H locs lsR cells slots hP hS hB hL)
theorem sn_null (hd : decode (mC j) pc = .ok (.aconst_null, 1)) : Snd l D AC b z L xs G j pc (oN (pc + 1)) := by
  intro ls st h Q kk p e R s m args below meth c QQ C E H locs lsR cells slots hP hS hB hL
  exact lv_null C.1 C.2.1 hd (kk p e R s m args below meth c QQ C E H locs lsR cells slots hP hS hB hL)
theorem sn_iload_n {k : Fin 4} {i : Nat} (hd : decode (mC j) pc = .ok (.iload_n k, 1)) (hi : (k : Nat) = i) : Snd l D AC b z L xs G j pc (oIld i (pc + 1)) := by
  intro ls st h Q kk p e R s m args below meth c QQ C E H locs lsR cells slots hP hS hB hL
  unfold oIld at kk
  split at kk
  · rename_i hx
    exact lv_iload_n C.1 C.2.1 hd hi (hL.2.2 _ _ hx) (kk p e R s m args below meth c QQ C E H locs lsR cells slots hP hS hB hL)
  · exact kk.elim
theorem sn_iload {i : Nat} (hd : decode (mC j) pc = .ok (.iload i, 2)) : Snd l D AC b z L xs G j pc (oIld i (pc + 2)) := by
  intro ls st h Q kk p e R s m args below meth c QQ C E H locs lsR cells slots hP hS hB hL
  unfold oIld at kk
  split at kk
  · rename_i hx
    exact lv_iload C.1 C.2.1 hd (hL.2.2 _ _ hx) (kk p e R s m args below meth c QQ C E H locs lsR cells slots hP hS hB hL)
  · exact kk.elim
theorem sn_lload_n {k : Fin 4} {i : Nat} (hd : decode (mC j) pc = .ok (.lload_n k, 1)) (hi : (k : Nat) = i) : Snd l D AC b z L xs G j pc (oLld i (pc + 1)) := by
  intro ls st h Q kk p e R s m args below meth c QQ C E H locs lsR cells slots hP hS hB hL
  unfold oLld at kk
  split at kk
  · rename_i hx
    exact lv_lload_n C.1 C.2.1 hd hi (hL.2.2 _ _ hx) (kk p e R s m args below meth c QQ C E H locs lsR cells slots hP hS hB hL)
  · exact kk.elim
theorem sn_lload {i : Nat} (hd : decode (mC j) pc = .ok (.lload i, 2)) : Snd l D AC b z L xs G j pc (oLld i (pc + 2)) := by
  intro ls st h Q kk p e R s m args below meth c QQ C E H locs lsR cells slots hP hS hB hL
  unfold oLld at kk
  split at kk
  · rename_i hx
    exact lv_lload C.1 C.2.1 hd (hL.2.2 _ _ hx) (kk p e R s m args below meth c QQ C E H locs lsR cells slots hP hS hB hL)
  · exact kk.elim
theorem sn_dload_n {k : Fin 4} {i : Nat} (hd : decode (mC j) pc = .ok (.dload_n k, 1)) (hi : (k : Nat) = i) : Snd l D AC b z L xs G j pc (oDld i (pc + 1)) := by
  intro ls st h Q kk p e R s m args below meth c QQ C E H locs lsR cells slots hP hS hB hL
  unfold oDld at kk
  split at kk
  · rename_i hx
    exact lv_dload_n C.1 C.2.1 hd hi (hL.2.2 _ _ hx) (kk p e R s m args below meth c QQ C E H locs lsR cells slots hP hS hB hL)
  · exact kk.elim
theorem sn_dload {i : Nat} (hd : decode (mC j) pc = .ok (.dload i, 2)) : Snd l D AC b z L xs G j pc (oDld i (pc + 2)) := by
  intro ls st h Q kk p e R s m args below meth c QQ C E H locs lsR cells slots hP hS hB hL
  unfold oDld at kk
  split at kk
  · rename_i hx
    exact lv_dload C.1 C.2.1 hd (hL.2.2 _ _ hx) (kk p e R s m args below meth c QQ C E H locs lsR cells slots hP hS hB hL)
  · exact kk.elim
theorem sn_aload_n {k : Fin 4} {i : Nat} (hd : decode (mC j) pc = .ok (.aload_n k, 1)) (hi : (k : Nat) = i) : Snd l D AC b z L xs G j pc (oAld i (pc + 1)) := by
  intro ls st h Q kk p e R s m args below meth c QQ C E H locs lsR cells slots hP hS hB hL
  unfold oAld at kk
  split at kk
  · rename_i r hx
    cases r with
    | none => exact lv_aload_nN C.1 C.2.1 hd hi (hL.2.2 _ _ hx) (kk p e R s m args below meth c QQ C E H locs lsR cells slots hP hS hB hL)
    | some a => exact lv_aload_n C.1 C.2.1 hd hi (hL.2.2 _ _ hx) (kk p e R s m args below meth c QQ C E H locs lsR cells slots hP hS hB hL)
  · exact kk.elim
theorem sn_aload {i : Nat} (hd : decode (mC j) pc = .ok (.aload i, 2)) : Snd l D AC b z L xs G j pc (oAld i (pc + 2)) := by
  intro ls st h Q kk p e R s m args below meth c QQ C E H locs lsR cells slots hP hS hB hL
  unfold oAld at kk
  split at kk
  · rename_i r hx
    cases r with
    | none => exact lv_aloadN C.1 C.2.1 hd (hL.2.2 _ _ hx) (kk p e R s m args below meth c QQ C E H locs lsR cells slots hP hS hB hL)
    | some a => exact lv_aload C.1 C.2.1 hd (hL.2.2 _ _ hx) (kk p e R s m args below meth c QQ C E H locs lsR cells slots hP hS hB hL)
  · exact kk.elim
theorem sn_istore_n {k : Fin 4} {i : Nat} (hd : decode (mC j) pc = .ok (.istore_n k, 1)) (hi : (k : Nat) = i) (hn : i < mL j) : Snd l D AC b z L xs G j pc (oIst i (pc + 1)) := by
  intro ls st h Q kk p e R s m args below meth c QQ C E H locs lsR cells slots hP hS hB hL
  unfold oIst at kk
  split at kk
  · exact lv_istore_n C.1 C.2.1 hd hi (LR_has b z hL) hn rfl (fun ls9 hl9 => kk p e R s m args below meth c QQ C E H locs ls9 cells slots hP hS hB (LR_set1 b z (fun w hw => by cases hw; rfl) hl9))
  · exact kk.elim
theorem sn_istore {i : Nat} (hd : decode (mC j) pc = .ok (.istore i, 2)) (hn : i < mL j) : Snd l D AC b z L xs G j pc (oIst i (pc + 2)) := by
  intro ls st h Q kk p e R s m args below meth c QQ C E H locs lsR cells slots hP hS hB hL
  unfold oIst at kk
  split at kk
  · exact lv_istore C.1 C.2.1 hd (LR_has b z hL) hn rfl (fun ls9 hl9 => kk p e R s m args below meth c QQ C E H locs ls9 cells slots hP hS hB (LR_set1 b z (fun w hw => by cases hw; rfl) hl9))
  · exact kk.elim
theorem sn_astore_n {k : Fin 4} {i : Nat} (hd : decode (mC j) pc = .ok (.astore_n k, 1)) (hi : (k : Nat) = i) (hn : i < mL j) : Snd l D AC b z L xs G j pc (oAst i (pc + 1)) := by
  intro ls st h Q kk p e R s m args below meth c QQ C E H locs lsR cells slots hP hS hB hL
  unfold oAst at kk
  split at kk
  · rename_i r _
    cases r with
    | none => exact lv_astore_nN C.1 C.2.1 hd hi (LR_has b z hL) hn rfl (fun ls9 hl9 => kk p e R s m args below meth c QQ C E H locs ls9 cells slots hP hS hB (LR_set1 b z (fun w hw => by cases hw; rfl) hl9))
    | some a => exact lv_astore_n C.1 C.2.1 hd hi (LR_has b z hL) hn rfl (fun ls9 hl9 => kk p e R s m args below meth c QQ C E H locs ls9 cells slots hP hS hB (LR_set1 b z (fun w hw => by cases hw; rfl) hl9))
  · exact kk.elim
theorem sn_astore {i : Nat} (hd : decode (mC j) pc = .ok (.astore i, 2)) (hn : i < mL j) : Snd l D AC b z L xs G j pc (oAst i (pc + 2)) := by
  intro ls st h Q kk p e R s m args below meth c QQ C E H locs lsR cells slots hP hS hB hL
  unfold oAst at kk
  split at kk
  · rename_i r _
    cases r with
    | none => exact lv_astoreN C.1 C.2.1 hd (LR_has b z hL) hn rfl (fun ls9 hl9 => kk p e R s m args below meth c QQ C E H locs ls9 cells slots hP hS hB (LR_set1 b z (fun w hw => by cases hw; rfl) hl9))
    | some a => exact lv_astore C.1 C.2.1 hd (LR_has b z hL) hn rfl (fun ls9 hl9 => kk p e R s m args below meth c QQ C E H locs ls9 cells slots hP hS hB (LR_set1 b z (fun w hw => by cases hw; rfl) hl9))
  · exact kk.elim
theorem sn_lstore_n {k : Fin 4} {i : Nat} (hd : decode (mC j) pc = .ok (.lstore_n k, 1)) (hi : (k : Nat) = i) (hn : i + 1 < mL j) : Snd l D AC b z L xs G j pc (oLst i (pc + 1)) := by
  intro ls st h Q kk p e R s m args below meth c QQ C E H locs lsR cells slots hP hS hB hL
  unfold oLst at kk
  split at kk
  · exact lv_lstore_n C.1 C.2.1 hd hi (LR_has b z hL) hn rfl (fun ls9 hl9 => kk p e R s m args below meth c QQ C E H locs ls9 cells slots hP hS hB (LR_set2 b z rfl hl9))
  · exact kk.elim
theorem sn_lstore {i : Nat} (hd : decode (mC j) pc = .ok (.lstore i, 2)) (hn : i + 1 < mL j) : Snd l D AC b z L xs G j pc (oLst i (pc + 2)) := by
  intro ls st h Q kk p e R s m args below meth c QQ C E H locs lsR cells slots hP hS hB hL
  unfold oLst at kk
  split at kk
  · exact lv_lstore C.1 C.2.1 hd (LR_has b z hL) hn rfl (fun ls9 hl9 => kk p e R s m args below meth c QQ C E H locs ls9 cells slots hP hS hB (LR_set2 b z rfl hl9))
  · exact kk.elim
theorem sn_dstore_n {k : Fin 4} {i : Nat} (hd : decode (mC j) pc = .ok (.dstore_n k, 1)) (hi : (k : Nat) = i) (hn : i + 1 < mL j) : Snd l D AC b z L xs G j pc (oDst i (pc + 1)) := by
  intro ls st h Q kk p e R s m args below meth c QQ C E H locs lsR cells slots hP hS hB hL
  unfold oDst at kk
  split at kk
  · exact lv_dstore_n C.1 C.2.1 hd hi (LR_has b z hL) hn rfl (fun ls9 hl9 => kk p e R s m args below meth c QQ C E H locs ls9 cells slots hP hS hB (LR_set2 b z rfl hl9))
  · exact kk.elim
theorem sn_dstore {i : Nat} (hd : decode (mC j) pc = .ok (.dstore i, 2)) (hn : i + 1 < mL j) : Snd l D AC b z L xs G j pc (oDst i (pc + 2)) := by
  intro ls st h Q kk p e R s m args below meth c QQ C E H locs lsR cells slots hP hS hB hL
  unfold oDst at kk
  split at kk
  · exact lv_dstore C.1 C.2.1 hd (LR_has b z hL) hn rfl (fun ls9 hl9 => kk p e R s m args below meth c QQ C E H locs ls9 cells slots hP hS hB (LR_set2 b z rfl hl9))
  · exact kk.elim
theorem sn_iinc {i : Nat} {n : Int} {v : Int32} (hd : decode (mC j) pc = .ok (.iinc i n, 3)) (hv : Int32.ofInt n = v) (hn : i < mL j) : Snd l D AC b z L xs G j pc (oInc i v (pc + 3)) := by
  intro ls st h Q kk p e R s m args below meth c QQ C E H locs lsR cells slots hP hS hB hL
  subst hv
  unfold oInc at kk
  split at kk
  · rename_i x hx
    obtain ⟨q, hq⟩ := List.getElem?_of_mem ((lvl_mem b z).mpr ⟨_, hx, rfl⟩ : (i, toV b z (.inl x)) ∈ lvl b z ls)
    exact lv_iinc C.1 C.2.1 hd (LR_has b z hL) hq rfl hn rfl (fun ls9 hl9 => kk p e R s m args below meth c QQ C E H locs ls9 cells slots hP hS hB (LR_set1 b z (fun w hw => by cases hw; rfl) hl9))
  · exact kk.elim
theorem sn_iadd (hd : decode (mC j) pc = .ok (.iadd, 1)) : Snd l D AC b z L xs G j pc (oII (fun x y => x + y) (pc + 1)) := by
  intro ls st h Q kk p e R s m args below meth c QQ C E H locs lsR cells slots hP hS hB hL
  unfold oII at kk
  split at kk
  · exact lv_iadd C.1 C.2.1 hd (kk p e R s m args below meth c QQ C E H locs lsR cells slots hP hS hB hL)
  · exact kk.elim
theorem sn_isub (hd : decode (mC j) pc = .ok (.isub, 1)) : Snd l D AC b z L xs G j pc (oII (fun x y => x - y) (pc + 1)) := by
  intro ls st h Q kk p e R s m args below meth c QQ C E H locs lsR cells slots hP hS hB hL
  unfold oII at kk
  split at kk
  · exact lv_isub C.1 C.2.1 hd (kk p e R s m args below meth c QQ C E H locs lsR cells slots hP hS hB hL)
  · exact kk.elim
theorem sn_imul (hd : decode (mC j) pc = .ok (.imul, 1)) : Snd l D AC b z L xs G j pc (oII (fun x y => x * y) (pc + 1)) := by
  intro ls st h Q kk p e R s m args below meth c QQ C E H locs lsR cells slots hP hS hB hL
  unfold oII at kk
  split at kk
  · exact lv_imul C.1 C.2.1 hd (kk p e R s m args below meth c QQ C E H locs lsR cells slots hP hS hB hL)
  · exact kk.elim
theorem sn_iand (hd : decode (mC j) pc = .ok (.iand, 1)) : Snd l D AC b z L xs G j pc (oII (fun x y => x &&& y) (pc + 1)) := by
  intro ls st h Q kk p e R s m args below meth c QQ C E H locs lsR cells slots hP hS hB hL
  unfold oII at kk
  split at kk
  · exact lv_iand C.1 C.2.1 hd (kk p e R s m args below meth c QQ C E H locs lsR cells slots hP hS hB hL)
  · exact kk.elim
theorem sn_ior (hd : decode (mC j) pc = .ok (.ior, 1)) : Snd l D AC b z L xs G j pc (oII (fun x y => x ||| y) (pc + 1)) := by
  intro ls st h Q kk p e R s m args below meth c QQ C E H locs lsR cells slots hP hS hB hL
  unfold oII at kk
  split at kk
  · exact lv_ior C.1 C.2.1 hd (kk p e R s m args below meth c QQ C E H locs lsR cells slots hP hS hB hL)
  · exact kk.elim
theorem sn_ixor (hd : decode (mC j) pc = .ok (.ixor, 1)) : Snd l D AC b z L xs G j pc (oII (fun x y => x ^^^ y) (pc + 1)) := by
  intro ls st h Q kk p e R s m args below meth c QQ C E H locs lsR cells slots hP hS hB hL
  unfold oII at kk
  split at kk
  · exact lv_ixor C.1 C.2.1 hd (kk p e R s m args below meth c QQ C E H locs lsR cells slots hP hS hB hL)
  · exact kk.elim
theorem sn_ishl (hd : decode (mC j) pc = .ok (.ishl, 1)) : Snd l D AC b z L xs G j pc (oII (fun x y => x <<< (y &&& 31)) (pc + 1)) := by
  intro ls st h Q kk p e R s m args below meth c QQ C E H locs lsR cells slots hP hS hB hL
  unfold oII at kk
  split at kk
  · exact lv_ishl C.1 C.2.1 hd (kk p e R s m args below meth c QQ C E H locs lsR cells slots hP hS hB hL)
  · exact kk.elim
theorem sn_ishr (hd : decode (mC j) pc = .ok (.ishr, 1)) : Snd l D AC b z L xs G j pc (oII (fun x y => x >>> (y &&& 31)) (pc + 1)) := by
  intro ls st h Q kk p e R s m args below meth c QQ C E H locs lsR cells slots hP hS hB hL
  unfold oII at kk
  split at kk
  · exact lv_ishr C.1 C.2.1 hd (kk p e R s m args below meth c QQ C E H locs lsR cells slots hP hS hB hL)
  · exact kk.elim
theorem sn_iushr (hd : decode (mC j) pc = .ok (.iushr, 1)) : Snd l D AC b z L xs G j pc (oII (fun x y => (x.toUInt32 >>> (y.toUInt32 &&& Int32.toUInt32 31)).toInt32) (pc + 1)) := by
  intro ls st h Q kk p e R s m args below meth c QQ C E H locs lsR cells slots hP hS hB hL
  unfold oII at kk
  split at kk
  · exact lv_iushr C.1 C.2.1 hd rfl (kk p e R s m args below meth c QQ C E H locs lsR cells slots hP hS hB hL)
  · exact kk.elim
theorem sn_idiv (hd : decode (mC j) pc = .ok (.idiv, 1)) : Snd l D AC b z L xs G j pc (oIq (fun x y => x / y) (pc + 1)) := by
  intro ls st h Q kk p e R s m args below meth c QQ C E H locs lsR cells slots hP hS hB hL
  unfold oIq at kk
  split at kk
  · split at kk
    · exact kk.elim
    · rename_i hy
      exact lv_idiv C.1 C.2.1 hd hy (kk p e R s m args below meth c QQ C E H locs lsR cells slots hP hS hB hL)
  · exact kk.elim
theorem sn_irem (hd : decode (mC j) pc = .ok (.irem, 1)) : Snd l D AC b z L xs G j pc (oIq (fun x y => x - x / y * y) (pc + 1)) := by
  intro ls st h Q kk p e R s m args below meth c QQ C E H locs lsR cells slots hP hS hB hL
  unfold oIq at kk
  split at kk
  · split at kk
    · exact kk.elim
    · rename_i hy
      exact lv_irem C.1 C.2.1 hd hy (kk p e R s m args below meth c QQ C E H locs lsR cells slots hP hS hB hL)
  · exact kk.elim
theorem sn_ladd (hd : decode (mC j) pc = .ok (.ladd, 1)) : Snd l D AC b z L xs G j pc (oLL (fun x y => x + y) (pc + 1)) := by
  intro ls st h Q kk p e R s m args below meth c QQ C E H locs lsR cells slots hP hS hB hL
  unfold oLL at kk
  split at kk
  · exact lv_ladd C.1 C.2.1 hd (kk p e R s m args below meth c QQ C E H locs lsR cells slots hP hS hB hL)
  · exact kk.elim
theorem sn_lsub (hd : decode (mC j) pc = .ok (.lsub, 1)) : Snd l D AC b z L xs G j pc (oLL (fun x y => x - y) (pc + 1)) := by
  intro ls st h Q kk p e R s m args below meth c QQ C E H locs lsR cells slots hP hS hB hL
  unfold oLL at kk
  split at kk
  · exact lv_lsub C.1 C.2.1 hd (kk p e R s m args below meth c QQ C E H locs lsR cells slots hP hS hB hL)
  · exact kk.elim
theorem sn_lmul (hd : decode (mC j) pc = .ok (.lmul, 1)) : Snd l D AC b z L xs G j pc (oLL (fun x y => x * y) (pc + 1)) := by
  intro ls st h Q kk p e R s m args below meth c QQ C E H locs lsR cells slots hP hS hB hL
  unfold oLL at kk
  split at kk
  · exact lv_lmul C.1 C.2.1 hd (kk p e R s m args below meth c QQ C E H locs lsR cells slots hP hS hB hL)
  · exact kk.elim
theorem sn_land (hd : decode (mC j) pc = .ok (.land, 1)) : Snd l D AC b z L xs G j pc (oLL (fun x y => x &&& y) (pc + 1)) := by
  intro ls st h Q kk p e R s m args below meth c QQ C E H locs lsR cells slots hP hS hB hL
  unfold oLL at kk
  split at kk
  · exact lv_land C.1 C.2.1 hd (kk p e R s m args below meth c QQ C E H locs lsR cells slots hP hS hB hL)
  · exact kk.elim
theorem sn_lor (hd : decode (mC j) pc = .ok (.lor, 1)) : Snd l D AC b z L xs G j pc (oLL (fun x y => x ||| y) (pc + 1)) := by
  intro ls st h Q kk p e R s m args below meth c QQ C E H locs lsR cells slots hP hS hB hL
  unfold oLL at kk
  split at kk
  · exact lv_lor C.1 C.2.1 hd (kk p e R s m args below meth c QQ C E H locs lsR cells slots hP hS hB hL)
  · exact kk.elim
theorem sn_lxor (hd : decode (mC j) pc = .ok (.lxor, 1)) : Snd l D AC b z L xs G j pc (oLL (fun x y => x ^^^ y) (pc + 1)) := by
  intro ls st h Q kk p e R s m args below meth c QQ C E H locs lsR cells slots hP hS hB hL
  unfold oLL at kk
  split at kk
  · exact lv_lxor C.1 C.2.1 hd (kk p e R s m args below meth c QQ C E H locs lsR cells slots hP hS hB hL)
  · exact kk.elim
theorem sn_lushr (hd : decode (mC j) pc = .ok (.lushr, 1)) : Snd l D AC b z L xs G j pc (oLI (fun x y => (x.toUInt64 >>> (y.toInt64.toUInt64 &&& Int64.toUInt64 63)).toInt64) (pc + 1)) := by
  intro ls st h Q kk p e R s m args below meth c QQ C E H locs lsR cells slots hP hS hB hL
  unfold oLI at kk
  split at kk
  · exact lv_lushr C.1 C.2.1 hd rfl (kk p e R s m args below meth c QQ C E H locs lsR cells slots hP hS hB hL)
  · exact kk.elim
theorem sn_lshl (hd : decode (mC j) pc = .ok (.lshl, 1)) : Snd l D AC b z L xs G j pc (oLI (fun x y => x <<< (y.toInt64 &&& 63)) (pc + 1)) := by
  intro ls st h Q kk p e R s m args below meth c QQ C E H locs lsR cells slots hP hS hB hL
  unfold oLI at kk
  split at kk
  · exact lv_lshl C.1 C.2.1 hd rfl (kk p e R s m args below meth c QQ C E H locs lsR cells slots hP hS hB hL)
  · exact kk.elim
theorem sn_lshr (hd : decode (mC j) pc = .ok (.lshr, 1)) : Snd l D AC b z L xs G j pc (oLI (fun x y => x >>> (y.toInt64 &&& 63)) (pc + 1)) := by
  intro ls st h Q kk p e R s m args below meth c QQ C E H locs lsR cells slots hP hS hB hL
  unfold oLI at kk
  split at kk
  · exact lv_lshr C.1 C.2.1 hd rfl (kk p e R s m args below meth c QQ C E H locs lsR cells slots hP hS hB hL)
  · exact kk.elim
theorem sn_i2l (hd : decode (mC j) pc = .ok (.i2l, 1)) : Snd l D AC b z L xs G j pc (oI2L (pc + 1)) := by
  intro ls st h Q kk p e R s m args below meth c QQ C E H locs lsR cells slots hP hS hB hL
  unfold oI2L at kk
  split at kk
  · exact lv_i2l C.1 C.2.1 hd rfl (kk p e R s m args below meth c QQ C E H locs lsR cells slots hP hS hB hL)
  · exact kk.elim
theorem sn_l2i (hd : decode (mC j) pc = .ok (.l2i, 1)) : Snd l D AC b z L xs G j pc (oL2I (pc + 1)) := by
  intro ls st h Q kk p e R s m args below meth c QQ C E H locs lsR cells slots hP hS hB hL
  unfold oL2I at kk
  split at kk
  · exact lv_l2i C.1 C.2.1 hd rfl (kk p e R s m args below meth c QQ C E H locs lsR cells slots hP hS hB hL)
  · exact kk.elim
theorem sn_lcmp (hd : decode (mC j) pc = .ok (.lcmp, 1)) : Snd l D AC b z L xs G j pc (oLcmp (pc + 1)) := by
  intro ls st h Q kk p e R s m args below meth c QQ C E H locs lsR cells slots hP hS hB hL
  unfold oLcmp at kk
  split at kk
  · exact W.lcmp C.1 C.2.1 hd (kk p e R s m args below meth c QQ C E H locs lsR cells slots hP hS hB hL)
  · exact kk.elim
theorem sn_dadd (hd : decode (mC j) pc = .ok (.dadd, 1)) : Snd l D AC b z L xs G j pc (oDD FP.dadd (pc + 1)) := by
  intro ls st h Q kk p e R s m args below meth c QQ C E H locs lsR cells slots hP hS hB hL
  unfold oDD at kk
  split at kk
  · split at kk
    · rename_i hy
      exact lv_dadd C.1 C.2.1 hd (by unfold okD at hy; unfold vf_n64; exact of_decide_eq_true hy) (kk p e R s m args below meth c QQ C E H locs lsR cells slots hP hS hB hL)
    · exact kk.elim
  · exact kk.elim
theorem sn_dsub (hd : decode (mC j) pc = .ok (.dsub, 1)) : Snd l D AC b z L xs G j pc (oDD FP.dsub (pc + 1)) := by
  intro ls st h Q kk p e R s m args below meth c QQ C E H locs lsR cells slots hP hS hB hL
  unfold oDD at kk
  split at kk
  · split at kk
    · rename_i hy
      exact lv_dsub C.1 C.2.1 hd (by unfold okD at hy; unfold vf_n64; exact of_decide_eq_true hy) (kk p e R s m args below meth c QQ C E H locs lsR cells slots hP hS hB hL)
    · exact kk.elim
  · exact kk.elim
theorem sn_dmul (hd : decode (mC j) pc = .ok (.dmul, 1)) : Snd l D AC b z L xs G j pc (oDD FP.dmul (pc + 1)) := by
  intro ls st h Q kk p e R s m args below meth c QQ C E H locs lsR cells slots hP hS hB hL
  unfold oDD at kk
  split at kk
  · split at kk
    · rename_i hy
      exact lv_dmul C.1 C.2.1 hd (by unfold okD at hy; unfold vf_n64; exact of_decide_eq_true hy) (kk p e R s m args below meth c QQ C E H locs lsR cells slots hP hS hB hL)
    · exact kk.elim
  · exact kk.elim
theorem sn_ddiv (hd : decode (mC j) pc = .ok (.ddiv, 1)) : Snd l D AC b z L xs G j pc (oDD FP.ddiv (pc + 1)) := by
  intro ls st h Q kk p e R s m args below meth c QQ C E H locs lsR cells slots hP hS hB hL
  unfold oDD at kk
  split at kk
  · split at kk
    · rename_i hy
      exact lv_ddiv C.1 C.2.1 hd (by unfold okD at hy; unfold vf_n64; exact of_decide_eq_true hy) (kk p e R s m args below meth c QQ C E H locs lsR cells slots hP hS hB hL)
    · exact kk.elim
  · exact kk.elim
theorem sn_dcmp {op : CmpOp} (hd : decode (mC j) pc = .ok (.dcmp op, 1)) : Snd l D AC b z L xs G j pc (oDcmp op (pc + 1)) := by
  intro ls st h Q kk p e R s m args below meth c QQ C E H locs lsR cells slots hP hS hB hL
  unfold oDcmp at kk
  split at kk
  · exact lv_dcmp C.1 C.2.1 hd (kk p e R s m args below meth c QQ C E H locs lsR cells slots hP hS hB hL)
  · exact kk.elim
theorem sn_i2d (hd : decode (mC j) pc = .ok (.i2d, 1)) : Snd l D AC b z L xs G j pc (oI2D (pc + 1)) := by
  intro ls st h Q kk p e R s m args below meth c QQ C E H locs lsR cells slots hP hS hB hL
  unfold oI2D at kk
  split at kk
  · exact lv_i2d C.1 C.2.1 hd (kk p e R s m args below meth c QQ C E H locs lsR cells slots hP hS hB hL)
  · exact kk.elim
theorem sn_l2d (hd : decode (mC j) pc = .ok (.l2d, 1)) : Snd l D AC b z L xs G j pc (oL2D (pc + 1)) := by
  intro ls st h Q kk p e R s m args below meth c QQ C E H locs lsR cells slots hP hS hB hL
  unfold oL2D at kk
  split at kk
  · exact lv_l2d C.1 C.2.1 hd (kk p e R s m args below meth c QQ C E H locs lsR cells slots hP hS hB hL)
  · exact kk.elim
theorem sn_d2l (hd : decode (mC j) pc = .ok (.d2l, 1)) : Snd l D AC b z L xs G j pc (oD2L (pc + 1)) := by
  intro ls st h Q kk p e R s m args below meth c QQ C E H locs lsR cells slots hP hS hB hL
  unfold oD2L at kk
  split at kk
  · exact lv_d2l C.1 C.2.1 hd (kk p e R s m args below meth c QQ C E H locs lsR cells slots hP hS hB hL)
  · exact kk.elim
theorem sn_dup (hd : decode (mC j) pc = .ok (.dup, 1)) : Snd l D AC b z L xs G j pc (oDup (pc + 1)) := by
  intro ls st h Q kk p e R s m args below meth c QQ C E H locs lsR cells slots hP hS hB hL
  unfold oDup at kk
  split at kk
  · split at kk
    · exact kk.elim
    · rename_i hw
      exact lv_dup C.1 C.2.1 hd (by rw [cat_toV]; unfold catV; rw [if_neg hw]) (kk p e R s m args below meth c QQ C E H locs lsR cells slots hP hS hB hL)
  · exact kk.elim
theorem sn_pop (hd : decode (mC j) pc = .ok (.pop, 1)) : Snd l D AC b z L xs G j pc (oPop (pc + 1)) := by
  intro ls st h Q kk p e R s m args below meth c QQ C E H locs lsR cells slots hP hS hB hL
  unfold oPop at kk
  split at kk
  · split at kk
    · exact kk.elim
    · rename_i hw
      exact lv_pop C.1 C.2.1 hd (by rw [cat_toV]; unfold catV; rw [if_neg hw]) (kk p e R s m args below meth c QQ C E H locs lsR cells slots hP hS hB hL)
  · exact kk.elim
theorem sn_dup2 (hd : decode (mC j) pc = .ok (.dup2, 1)) : Snd l D AC b z L xs G j pc (oDup2 (pc + 1)) := by
  intro ls st h Q kk p e R s m args below meth c QQ C E H locs lsR cells slots hP hS hB hL
  unfold oDup2 at kk
  split at kk
  · split at kk
    · exact kk.elim
    · rename_i hw
      simp only [Bool.or_eq_true, not_or] at hw
      exact lv_dup2_11 C.1 C.2.1 hd (by rw [cat_toV]; unfold catV; rw [if_neg hw.1]) (by rw [cat_toV]; unfold catV; rw [if_neg hw.2]) (kk p e R s m args below meth c QQ C E H locs lsR cells slots hP hS hB hL)
  · exact kk.elim
theorem sn_if_eq {off : Int} {t : Nat} (hd : decode (mC j) pc = .ok (.ifCond .eq off, 3)) (ht : (pc : Int) + off = (t : Int)) : Snd l D AC b z L xs G j pc (oIf (fun x => decide (x = 0)) t (pc + 3)) := by
  intro ls st h Q kk p e R s m args below meth c QQ C E H locs lsR cells slots hP hS hB hL
  unfold oIf at kk
  split at kk
  · dsimp only [ndX] at kk
    exact lv_if_eq C.1 C.2.1 hd ht (fun hx => by rw [if_pos (by simpa using hx)] at kk; exact kk p e R s m args below meth c QQ C E H locs lsR cells slots hP hS hB hL) (fun hx => by rw [if_neg (by simpa using hx)] at kk; exact kk p e R s m args below meth c QQ C E H locs lsR cells slots hP hS hB hL)
  · exact kk.elim
theorem sn_if_ne {off : Int} {t : Nat} (hd : decode (mC j) pc = .ok (.ifCond .ne off, 3)) (ht : (pc : Int) + off = (t : Int)) : Snd l D AC b z L xs G j pc (oIf (fun x => decide (¬ x = 0)) t (pc + 3)) := by
  intro ls st h Q kk p e R s m args below meth c QQ C E H locs lsR cells slots hP hS hB hL
  unfold oIf at kk
  split at kk
  · dsimp only [ndX] at kk
    exact lv_if_ne C.1 C.2.1 hd ht (fun hx => by rw [if_pos (by simpa using hx)] at kk; exact kk p e R s m args below meth c QQ C E H locs lsR cells slots hP hS hB hL) (fun hx => by rw [if_neg (by simpa using hx)] at kk; exact kk p e R s m args below meth c QQ C E H locs lsR cells slots hP hS hB hL)
  · exact kk.elim
theorem sn_if_lt {off : Int} {t : Nat} (hd : decode (mC j) pc = .ok (.ifCond .lt off, 3)) (ht : (pc : Int) + off = (t : Int)) : Snd l D AC b z L xs G j pc (oIf (fun x => decide (x < 0)) t (pc + 3)) := by
  intro ls st h Q kk p e R s m args below meth c QQ C E H locs lsR cells slots hP hS hB hL
  unfold oIf at kk
  split at kk
  · dsimp only [ndX] at kk
    exact lv_if_lt C.1 C.2.1 hd ht (fun hx => by rw [if_pos (by simpa using hx)] at kk; exact kk p e R s m args below meth c QQ C E H locs lsR cells slots hP hS hB hL) (fun hx => by rw [if_neg (by simpa using hx)] at kk; exact kk p e R s m args below meth c QQ C E H locs lsR cells slots hP hS hB hL)
  · exact kk.elim
theorem sn_if_ge {off : Int} {t : Nat} (hd : decode (mC j) pc = .ok (.ifCond .ge off, 3)) (ht : (pc : Int) + off = (t : Int)) : Snd l D AC b z L xs G j pc (oIf (fun x => decide (0 ≤ x)) t (pc + 3)) := by
  intro ls st h Q kk p e R s m args below meth c QQ C E H locs lsR cells slots hP hS hB hL
  unfold oIf at kk
  split at kk
  · dsimp only [ndX] at kk
    exact lv_if_ge C.1 C.2.1 hd ht (fun hx => by rw [if_pos (by simpa using hx)] at kk; exact kk p e R s m args below meth c QQ C E H locs lsR cells slots hP hS hB hL) (fun hx => by rw [if_neg (by simpa using hx)] at kk; exact kk p e R s m args below meth c QQ C E H locs lsR cells slots hP hS hB hL)
  · exact kk.elim
theorem sn_if_gt {off : Int} {t : Nat} (hd : decode (mC j) pc = .ok (.ifCond .gt off, 3)) (ht : (pc : Int) + off = (t : Int)) : Snd l D AC b z L xs G j pc (oIf (fun x => decide (0 < x)) t (pc + 3)) := by
  intro ls st h Q kk p e R s m args below meth c QQ C E H locs lsR cells slots hP hS hB hL
  unfold oIf at kk
  split at kk
  · dsimp only [ndX] at kk
    exact lv_if_gt C.1 C.2.1 hd ht (fun hx => by rw [if_pos (by simpa using hx)] at kk; exact kk p e R s m args below meth c QQ C E H locs lsR cells slots hP hS hB hL) (fun hx => by rw [if_neg (by simpa using hx)] at kk; exact kk p e R s m args below meth c QQ C E H locs lsR cells slots hP hS hB hL)
  · exact kk.elim
theorem sn_if_le {off : Int} {t : Nat} (hd : decode (mC j) pc = .ok (.ifCond .le off, 3)) (ht : (pc : Int) + off = (t : Int)) : Snd l D AC b z L xs G j pc (oIf (fun x => decide (x ≤ 0)) t (pc + 3)) := by
  intro ls st h Q kk p e R s m args below meth c QQ C E H locs lsR cells slots hP hS hB hL
  unfold oIf at kk
  split at kk
  · dsimp only [ndX] at kk
    exact lv_if_le C.1 C.2.1 hd ht (fun hx => by rw [if_pos (by simpa using hx)] at kk; exact kk p e R s m args below meth c QQ C E H locs lsR cells slots hP hS hB hL) (fun hx => by rw [if_neg (by simpa using hx)] at kk; exact kk p e R s m args below meth c QQ C E H locs lsR cells slots hP hS hB hL)
  · exact kk.elim
theorem sn_icmp_eq {off : Int} {t : Nat} (hd : decode (mC j) pc = .ok (.if_icmp .eq off, 3)) (ht : (pc : Int) + off = (t : Int)) : Snd l D AC b z L xs G j pc (oIC (fun x y => decide (x = y)) t (pc + 3)) := by
  intro ls st h Q kk p e R s m args below meth c QQ C E H locs lsR cells slots hP hS hB hL
  unfold oIC at kk
  split at kk
  · dsimp only [ndX] at kk
    exact lv_icmp_eq C.1 C.2.1 hd ht (fun hx => by rw [if_pos (by simpa using hx)] at kk; exact kk p e R s m args below meth c QQ C E H locs lsR cells slots hP hS hB hL) (fun hx => by rw [if_neg (by simpa using hx)] at kk; exact kk p e R s m args below meth c QQ C E H locs lsR cells slots hP hS hB hL)
  · exact kk.elim
theorem sn_icmp_ne {off : Int} {t : Nat} (hd : decode (mC j) pc = .ok (.if_icmp .ne off, 3)) (ht : (pc : Int) + off = (t : Int)) : Snd l D AC b z L xs G j pc (oIC (fun x y => decide (¬ x = y)) t (pc + 3)) := by
  intro ls st h Q kk p e R s m args below meth c QQ C E H locs lsR cells slots hP hS hB hL
  unfold oIC at kk
  split at kk
  · dsimp only [ndX] at kk
    exact lv_icmp_ne C.1 C.2.1 hd ht (fun hx => by rw [if_pos (by simpa using hx)] at kk; exact kk p e R s m args below meth c QQ C E H locs lsR cells slots hP hS hB hL) (fun hx => by rw [if_neg (by simpa using hx)] at kk; exact kk p e R s m args below meth c QQ C E H locs lsR cells slots hP hS hB hL)
  · exact kk.elim
theorem sn_icmp_lt {off : Int} {t : Nat} (hd : decode (mC j) pc = .ok (.if_icmp .lt off, 3)) (ht : (pc : Int) + off = (t : Int)) : Snd l D AC b z L xs G j pc (oIC (fun x y => decide (x < y)) t (pc + 3)) := by
  intro ls st h Q kk p e R s m args below meth c QQ C E H locs lsR cells slots hP hS hB hL
  unfold oIC at kk
  split at kk
  · dsimp only [ndX] at kk
    exact lv_icmp_lt C.1 C.2.1 hd ht (fun hx => by rw [if_pos (by simpa using hx)] at kk; exact kk p e R s m args below meth c QQ C E H locs lsR cells slots hP hS hB hL) (fun hx => by rw [if_neg (by simpa using hx)] at kk; exact kk p e R s m args below meth c QQ C E H locs lsR cells slots hP hS hB hL)
  · exact kk.elim
theorem sn_icmp_ge {off : Int} {t : Nat} (hd : decode (mC j) pc = .ok (.if_icmp .ge off, 3)) (ht : (pc : Int) + off = (t : Int)) : Snd l D AC b z L xs G j pc (oIC (fun x y => decide (y ≤ x)) t (pc + 3)) := by
  intro ls st h Q kk p e R s m args below meth c QQ C E H locs lsR cells slots hP hS hB hL
  unfold oIC at kk
  split at kk
  · dsimp only [ndX] at kk
    exact lv_icmp_ge C.1 C.2.1 hd ht (fun hx => by rw [if_pos (by simpa using hx)] at kk; exact kk p e R s m args below meth c QQ C E H locs lsR cells slots hP hS hB hL) (fun hx => by rw [if_neg (by simpa using hx)] at kk; exact kk p e R s m args below meth c QQ C E H locs lsR cells slots hP hS hB hL)
  · exact kk.elim
theorem sn_icmp_gt {off : Int} {t : Nat} (hd : decode (mC j) pc = .ok (.if_icmp .gt off, 3)) (ht : (pc : Int) + off = (t : Int)) : Snd l D AC b z L xs G j pc (oIC (fun x y => decide (y < x)) t (pc + 3)) := by
  intro ls st h Q kk p e R s m args below meth c QQ C E H locs lsR cells slots hP hS hB hL
  unfold oIC at kk
  split at kk
  · dsimp only [ndX] at kk
    exact lv_icmp_gt C.1 C.2.1 hd ht (fun hx => by rw [if_pos (by simpa using hx)] at kk; exact kk p e R s m args below meth c QQ C E H locs lsR cells slots hP hS hB hL) (fun hx => by rw [if_neg (by simpa using hx)] at kk; exact kk p e R s m args below meth c QQ C E H locs lsR cells slots hP hS hB hL)
  · exact kk.elim
theorem sn_icmp_le {off : Int} {t : Nat} (hd : decode (mC j) pc = .ok (.if_icmp .le off, 3)) (ht : (pc : Int) + off = (t : Int)) : Snd l D AC b z L xs G j pc (oIC (fun x y => decide (x ≤ y)) t (pc + 3)) := by
  intro ls st h Q kk p e R s m args below meth c QQ C E H locs lsR cells slots hP hS hB hL
  unfold oIC at kk
  split at kk
  · dsimp only [ndX] at kk
    exact lv_icmp_le C.1 C.2.1 hd ht (fun hx => by rw [if_pos (by simpa using hx)] at kk; exact kk p e R s m args below meth c QQ C E H locs lsR cells slots hP hS hB hL) (fun hx => by rw [if_neg (by simpa using hx)] at kk; exact kk p e R s m args below meth c QQ C E H locs lsR cells slots hP hS hB hL)
  · exact kk.elim
theorem sn_goto {off : Int} {t : Nat} (hd : decode (mC j) pc = .ok (.goto off, 3)) (ht : (pc : Int) + off = (t : Int)) : Snd l D AC b z L xs G j pc (oGo t) := by
  intro ls st h Q kk p e R s m args below meth c QQ C E H locs lsR cells slots hP hS hB hL
  exact lv_goto C.1 C.2.1 hd ht (kk p e R s m args below meth c QQ C E H locs lsR cells slots hP hS hB hL)
theorem sn_ifnull {off : Int} {t : Nat} (hd : decode (mC j) pc = .ok (.ifnull off, 3)) (ht : (pc : Int) + off = (t : Int)) : Snd l D AC b z L xs G j pc (oIfN t (pc + 3)) := by
  intro ls st h Q kk p e R s m args below meth c QQ C E H locs lsR cells slots hP hS hB hL
  unfold oIfN at kk
  split at kk
  · rename_i r _
    cases r with
    | none => exact lv_ifnullN C.1 C.2.1 hd ht (kk p e R s m args below meth c QQ C E H locs lsR cells slots hP hS hB hL)
    | some a => exact lv_ifnull C.1 C.2.1 hd (kk p e R s m args below meth c QQ C E H locs lsR cells slots hP hS hB hL)
  · exact kk.elim
theorem sn_ifnonnull {off : Int} {t : Nat} (hd : decode (mC j) pc = .ok (.ifnonnull off, 3)) (ht : (pc : Int) + off = (t : Int)) : Snd l D AC b z L xs G j pc (oIfNN t (pc + 3)) := by
  intro ls st h Q kk p e R s m args below meth c QQ C E H locs lsR cells slots hP hS hB hL
  unfold oIfNN at kk
  split at kk
  · rename_i r _
    cases r with
    | none => exact lv_ifnonnullN C.1 C.2.1 hd (kk p e R s m args below meth c QQ C E H locs lsR cells slots hP hS hB hL)
    | some a => exact lv_ifnonnull C.1 C.2.1 hd ht (kk p e R s m args below meth c QQ C E H locs lsR cells slots hP hS hB hL)
  · exact kk.elim
theorem sn_tsw {d lo hi : Int} {offs : Array Int} {len : Nat} {ts : List Nat} {t : Nat} (hd : decode (mC j) pc = .ok (.tableswitch d lo hi offs, len)) (ht : (pc : Int) + d = (t : Int)) (ho : offs.toList.map (fun o => (pc : Int) + o) = ts.map (fun t : Nat => (t : Int))) (hn : (ts.length : Int) = hi - lo + 1) : Snd l D AC b z L xs G j pc (oTsw lo ts t) := by
  intro ls st h Q kk p e R s m args below meth c QQ C E H locs lsR cells slots hP hS hB hL
  unfold oTsw at kk
  split at kk
  · rename_i x r
    dsimp only [ndX] at kk
    unfold tsw at kk
    by_cases h1 : x.toInt < lo
    · rw [if_pos h1] at kk
      exact lv_tableOut C.1 C.2.1 hd (Or.inl h1) ht (kk p e R s m args below meth c QQ C E H locs lsR cells slots hP hS hB hL)
    · rw [if_neg h1] at kk
      by_cases h2 : hi < x.toInt
      · rw [List.getElem?_eq_none (by omega)] at kk
        exact lv_tableOut C.1 C.2.1 hd (Or.inr h2) ht (kk p e R s m args below meth c QQ C E H locs lsR cells slots hP hS hB hL)
      · have hl : (x.toInt - lo).toNat < ts.length := by omega
        have e9 := congrArg (fun l => l[(x.toInt - lo).toNat]?) ho
        simp only [List.getElem?_map, List.getElem?_eq_getElem hl, Option.map_some] at e9
        rw [List.getElem?_eq_getElem hl] at kk
        cases hv : offs.toList[(x.toInt - lo).toNat]? with
        | none => rw [hv] at e9; cases e9
        | some off =>
          rw [hv] at e9
          exact lv_tableIn C.1 C.2.1 hd h1 h2 (by rw [← Array.getElem?_toList]; exact hv) (Option.some.inj e9) (kk p e R s m args below meth c QQ C E H locs lsR cells slots hP hS hB hL)
  · exact kk.elim
theorem lsw_off : ∀ (qs : List (Int × Int)) (ps : List (Int32 × Nat)) (d : Int) (t : Nat) (x : Int32), (pc : Int) + d = (t : Int) → ps.map (fun q => (q.1.toInt, (q.2 : Int))) = qs.map (fun q => (q.1, (pc : Int) + q.2)) → (pc : Int) + Op.lookupswitch.offset qs d x.toInt = (lsw ps t x : Int)
  | [], [], d, t, x, hd, _ => hd
  | [], _ :: _, _, _, _, _, h => by simp at h
  | _ :: _, [], _, _, _, _, h => by simp at h
  | (a, o) :: qs, (k, t1) :: ps, d, t, x, hd, h => by
    simp only [List.map_cons, List.cons.injEq, Prod.mk.injEq] at h
    obtain ⟨⟨h1, h2⟩, h3⟩ := h
    have e : lsw ((k, t1) :: ps) t x = if x = k then t1 else lsw ps t x := rfl
    rw [e, Op.lookupswitch.offset_cons]
    by_cases hx : x = k
    · rw [if_pos hx, if_pos (by rw [hx]; exact h1.symm)]
      exact h2.symm
    · rw [if_neg hx, if_neg (fun q => hx (Int32.toInt_inj.mp (by rw [h1]; exact q.symm)))]
      exact lsw_off qs ps d t x hd h3
theorem sn_lsw {d : Int} {qs : Array (Int × Int)} {len : Nat} {ps : List (Int32 × Nat)} {t : Nat} (hd : decode (mC j) pc = .ok (.lookupswitch d qs, len)) (hs : (qs.toList.zip (qs.toList.drop 1)).all (fun (a, next) => a.1 < next.1) = true) (ht : (pc : Int) + d = (t : Int)) (ho : ps.map (fun q => (q.1.toInt, (q.2 : Int))) = qs.toList.map (fun q => (q.1, (pc : Int) + q.2))) : Snd l D AC b z L xs G j pc (oLsw ps t) := by
  intro ls st h Q kk p e R s m args below meth c QQ C E H locs lsR cells slots hP hS hB hL
  unfold oLsw at kk
  split at kk
  · rename_i x r
    exact lv_lookup C.1 C.2.1 hd hs rfl (lsw_off qs.toList ps d t x ht ho) (kk p e R s m args below meth c QQ C E H locs lsR cells slots hP hS hB hL)
  · exact kk.elim
end OPS
end
section
/-! the heap's handlers are sound -/
section HEAPLAWS
variable (AC : Nat → ClassId) (b z : Nat)
theorem isK_spec {h : Hp} {a c : Nat} (hk : isK h a c = true) : a < nx h ∧ kd h a = c := by
  unfold isK at hk
  simp only [Bool.and_eq_true, decide_eq_true_eq] at hk
  exact hk
theorem inL_spec {h : Hp} {a : Nat} {i : Int32} (hk : inL h a i = true) : vp_in i (ln h a) := by
  unfold inL at hk
  simp only [Bool.and_eq_true, decide_eq_true_eq] at hk
  intro q
  rcases q with q | q
  · exact absurd hk.1 (Int32.not_le.mpr q)
  · omega
theorem cE_obj {h : Hp} {a ci N : Nat} {C : String} {T : u_T} (hc : kN[ci]? = some (C, T, N)) (hk : kd h a = ci) (h1 : ci < 100) : cE AC b z h a = .inr (ci, (List.range N).map (fV b z h a ci)) := by
  unfold cE
  rw [hk, if_pos h1]
  have e : kSz ci = N := by unfold kSz; rw [hc]; rfl
  rw [e]
theorem cE_arr {h : Hp} {a t : Nat} (hk : kd h a = 100 + t) : cE AC b z h a = .inl (AC t, ln h a, aV b z h a t) := by
  unfold cE
  rw [hk, if_neg (by omega), show 100 + t - 100 = t by omega]
theorem cE_cong {h h' : Hp} {a : Nat} (h1 : kd h' a = kd h a) (h2 : ln h' a = ln h a) (h3 : gI h' a = gI h a) (h4 : gR h' a = gR h a) (h5 : gL h' a = gL h a) (h6 : gD h' a = gD h a) : cE AC b z h' a = cE AC b z h a := by
  have e1 : fV b z h' a = fV b z h a := by
    funext ci k
    unfold fV
    rw [h3, h4, h5, h6]
  have e2 : aV b z h' a = aV b z h a := by
    funext t
    unfold aV
    rw [h3, h4, h5, h6]
  unfold cE
  rw [h1, h2, e1, e2]
theorem up2_ne {α : Type} {f : Nat → Nat → α} {a k c : Nat} {v : α} (h : c ≠ a) : up2 f a k v c = f c := by
  funext j
  unfold up2
  rw [if_neg (fun q => h q.1)]
theorem map_set {α : Type} {N k : Nat} {f f' : Nat → α} {v : α} (h : ∀ i, i < N → f' i = if i = k then v else f i) : (List.range N).map f' = ((List.range N).map f).set k v := by
  apply List.ext_getElem?
  intro i
  by_cases hi : i < N
  · rw [List.getElem?_map, List.getElem?_range hi]
    by_cases hk : i = k
    · subst hk
      rw [List.getElem?_set_self (by rw [List.length_map, List.length_range]; exact hi)]
      simp [h i hi]
    · rw [List.getElem?_set_ne (fun q => hk q.symm), List.getElem?_map, List.getElem?_range hi]
      simp [h i hi, hk]
  · rw [List.getElem?_eq_none (by rw [List.length_map, List.length_range]; omega), List.getElem?_eq_none (by rw [List.length_set, List.length_map, List.length_range]; omega)]
theorem cE_sI {h : Hp} {a k c : Nat} {v : Int32} (hc : c ≠ a) : cE AC b z (sI h a k v) c = cE AC b z h c := cE_cong AC b z rfl rfl (up2_ne hc) rfl rfl rfl
theorem cE_sR {h : Hp} {a k c : Nat} {v : Option Nat} (hc : c ≠ a) : cE AC b z (sR h a k v) c = cE AC b z h c := cE_cong AC b z rfl rfl rfl (up2_ne hc) rfl rfl
theorem cE_sL {h : Hp} {a k c : Nat} {v : Int64} (hc : c ≠ a) : cE AC b z (sL h a k v) c = cE AC b z h c := cE_cong AC b z rfl rfl rfl rfl (up2_ne hc) rfl
theorem cE_sD {h : Hp} {a k c : Nat} {v : UInt64} (hc : c ≠ a) : cE AC b z (sD h a k v) c = cE AC b z h c := cE_cong AC b z rfl rfl rfl rfl rfl (up2_ne hc)
theorem row0_ne {α : Type} {f : Nat → Nat → α} {a c : Nat} {v : α} (h : c ≠ a) : row0 f a v c = f c := by
  funext j
  unfold row0
  rw [if_neg h]
theorem cE_hN {h : Hp} {k n s c : Nat} (hc : c ≠ nx h) : cE AC b z (hN h k n s) c = cE AC b z h c :=
  cE_cong AC b z (by rw [kd_hN, if_neg hc]) (by rw [ln_hN, if_neg hc]) (row0_ne hc) (row0_ne hc) (row0_ne hc) (row0_ne hc)
variable (L : Nat) (xs : Nat → Int32)
theorem Bd_sI {h : Hp} {a k : Nat} {v : Int32} (ha : a ≠ 0) (hb : Bd L xs h) : Bd L xs (sI h a k v) := by
  obtain ⟨h1, h2, h3, h4, h5, h6⟩ := hb
  exact ⟨h1, h2, h3, fun j hj => by rw [gI_sI, if_neg (fun q => ha q.1.symm)]; exact h4 j hj, h5, h6⟩
theorem Bd_hN {h : Hp} {k n s : Nat} (hr : okR cM sM h 1 s = true) (hb : Bd L xs h) : Bd L xs (hN h k n s) := by
  obtain ⟨h1, h2, h3, h4, h5, h6⟩ := hb
  unfold okR at hr
  simp only [Bool.and_eq_true, decide_eq_true_eq] at hr
  have hn : (0 : Nat) ≠ nx h := by omega
  exact ⟨hr.1, hr.2, Nat.le_add_left 1 _, fun j hj => by rw [gI_hN, if_neg hn]; exact h4 j hj, by rw [ln_hN, if_neg hn]; exact h5, by rw [kd_hN, if_neg hn]; exact h6⟩
end HEAPLAWS
section HEAPROWS
variable {p : Program} {l : Launch} {e : Env} {R : Room} {s : State} {m : MethodId} {args : Array Value} {below : List Frame} {meth : Method} {c : Code} {H : Heap} {locs : List Loc} {cells slots : Nat} {Q : State → Prop}
variable {cc : ByteArray} {pc : Nat} {ls : Array Slot} {rest : List Value} {D : va_G} {cl : List vw_C} {A : Nat → Prop} {a : Nat} {tys : List (ClassId × FieldType)} {ws : va_W} {H0 : Heap}
theorem ms_new {c0 : Code} (hexec : p.tables.exec = Jvm.exec) (hb : c0.code = cc) {own C : String} {T : u_T} {N ci index : Nat} {Ts : List Cond} (hts : ∀ w ∈ Ts, w.before args s = true) (hin : ∀ w ∈ u_ws C T N, w ∈ Ts) (ty : Nat → FieldType) (hty : ∀ k, k < N → parseFieldDescriptor (T k).2.2.1 = some (ty k)) (hown : s.vm.findClass own = some m.cls) (hcl : (Cond.classLink own index C).before args s = true) (hinst : (Cond.instantiable C N).before args s = true) (hini : (Cond.initialized C).before args s = true)
    (hK : va_K D cl tys s) (hP : va_P D cl ws H) (hS : va_S A H0 H locs) (hc : cl[ci]? = some (C, T, N)) {fs : List Value} (hfs : ∀ j, j < N → defaultValue (ty j) = vp_V fs j) (hcells : cells + 1 ≤ R.cells) (hslots : slots + N ≤ R.slots) (hdg : decode cc pc = .ok (.new index, 3))
    (kk : ∀ (H1 : Heap), va_P D cl (ws ++ [(H.size, .inr (ci, fs))]) H1 → va_S A H0 H1 locs →
      W p l e R s m args below meth c0 H1 locs (cells + 1) (slots + N) Q (F0 m (pc + 3) ls (.ref H.size :: rest))) : W p l e R s m args below meth c0 H locs cells slots Q (F0 m pc ls rest) := by
  have hKn := hK.1 ci _ hc
  refine W.newcK hexec hb hown hcl hinst hini rfl hdg hcells hslots hKn.2.1 rfl fun H1 kC hkC e1 z1 o1 => ?_
  have hk : ∀ (k : Nat) (x : Nat × va_E), ws[k]? = some x → H1[x.1]? = H[x.1]? := fun k x hx => o1 x.1 ((hP k x hx).lt)
  refine kk H1 ((hP.kept hk).app (fun k x hx => ?_)) ⟨Nat.le_trans hS.1 (by omega), fun x h1 h2 => (o1 x (Nat.lt_of_lt_of_le h1 hS.1)).trans (hS.2.1 x h1 h2), hS.2.2⟩
  have hz : k < 1 := (List.getElem?_eq_some_iff.mp hx).1
  rw [show k = 0 by omega] at hx
  cases hx
  exact ⟨_, hc, (u_born ty hts hin hKn hkC e1 hty).to hfs⟩
theorem ms_newa (hexec : p.tables.exec = Jvm.exec) (hb : c.code = cc) {atype : ArrayType} (harr : (Cond.arrayClass (newarray.typeOf atype)).before args s = true) {ty : FieldType} (hty : newarray.typeOf atype = ty) {cA : ClassId} (hcA : s.vm.findClass ("[" ++ ty.toString) = some cA) (hP : va_P D cl ws H) (hS : va_S A H0 H locs)
    {n : Int32} {N' : Nat} {a0 : vp_A} (ha : ∀ cA : ClassId, vp_cell cA a0 = arrV cA N' (fun _ => defaultValue ty)) (hn : ¬ n < 0) (hN : n.toNatClampNeg = N') (hbytes : N' * componentBytes ty ≤ 536870912) (hcells : cells + 1 ≤ R.cells) (hslots : slots + N' ≤ R.slots) (hdg : decode cc pc = .ok (.newarray atype, 2))
    (kk : ∀ (H1 : Heap), va_P D cl (ws ++ [(H.size, .inl (cA, a0))]) H1 → va_S A H0 H1 locs →
      W p l e R s m args below meth c H1 locs (cells + 1) (slots + N') Q (F0 m (pc + 2) ls (.ref H.size :: rest))) : W p l e R s m args below meth c H locs cells slots Q (F0 m pc ls (.int n :: rest)) := by
  subst hty
  refine va_newaK hexec hb harr rfl hdg rfl hn hN hbytes hcells hslots rfl fun H1 cB e1 z1 o1 hAr hNm => ?_
  have hk : ∀ (k : Nat) (x : Nat × va_E), ws[k]? = some x → H1[x.1]? = H[x.1]? := fun k x hx => o1 x.1 ((hP k x hx).lt)
  cases Option.some.inj (hNm.symm.trans hcA)
  refine kk H1 ((hP.kept hk).app (fun k x hx => ?_)) ⟨Nat.le_trans hS.1 (by omega), fun x h1 h2 => (o1 x (Nat.lt_of_lt_of_le h1 hS.1)).trans (hS.2.1 x h1 h2), hS.2.2⟩
  have hz : k < 1 := (List.getElem?_eq_some_iff.mp hx).1
  rw [show k = 0 by omega] at hx
  cases hx
  show H1[H.size]? = some (vp_cell _ _)
  rw [ha]
  exact e1
theorem ms_newq (hexec : p.tables.exec = Jvm.exec) (hb : c.code = cc) {own C : String} {index : Nat} (hown : s.vm.findClass own = some m.cls) (hclink : (Cond.classLink own index C).before args s = true) (hover : (Cond.arrayOver (.object C)).before args s = true) {cA : ClassId} (hcA : s.vm.findClass ("[" ++ (FieldType.object C).toString) = some cA) (hP : va_P D cl ws H) (hS : va_S A H0 H locs)
    {n : Int32} {N' : Nat} (hn : ¬ n < 0) (hN : n.toNatClampNeg = N') (hbytes : N' * 4 ≤ 536870912) (hcells : cells + 1 ≤ R.cells) (hslots : slots + N' ≤ R.slots) (hdg : decode cc pc = .ok (.anewarray index, 3))
    (kk : ∀ (H1 : Heap), va_P D cl (ws ++ [(H.size, .inl (cA, N', .inr (.inr (.inr (.inr (fun _ => none))))))]) H1 → va_S A H0 H1 locs →
      W p l e R s m args below meth c H1 locs (cells + 1) (slots + N') Q (F0 m (pc + 3) ls (.ref H.size :: rest))) : W p l e R s m args below meth c H locs cells slots Q (F0 m pc ls (.int n :: rest)) := by
  subst hN
  refine W.anew hexec hb hown hclink hover rfl hdg rfl hn hbytes hcells hslots fun cB kA comp f1 f2 f3 f4 => ?_
  cases Option.some.inj (f1.symm.trans hcA)
  generalize hH1 : H.push ({ cls := cA, slots := Array.replicate n.toNatClampNeg .null, vm := .none } : Cell) = H1
  have z1 : H1.size = H.size + 1 := by rw [← hH1, Array.size_push]
  have e1 : H1[H.size]? = some (arrV cA n.toNatClampNeg (fun _ => .null)) := by rw [← hH1, Array.getElem?_push_size, ← arrV_new]
  have o1 : ∀ q : Nat, q < H.size → H1[q]? = H[q]? := fun q hq => by rw [← hH1, Array.getElem?_push, if_neg (Nat.ne_of_lt hq)]
  have hk : ∀ (k : Nat) (x : Nat × va_E), ws[k]? = some x → H1[x.1]? = H[x.1]? := fun k x hx => o1 x.1 ((hP k x hx).lt)
  refine kk H1 ((hP.kept hk).app (fun k x hx => ?_)) ⟨Nat.le_trans hS.1 (by omega), fun x h1 h2 => (o1 x (Nat.lt_of_lt_of_le h1 hS.1)).trans (hS.2.1 x h1 h2), hS.2.2⟩
  have hz : k < 1 := (List.getElem?_eq_some_iff.mp hx).1
  rw [show k = 0 by omega] at hx
  cases hx
  show H1[H.size]? = some (vp_cell _ _)
  rw [vp_cell_q]
  exact e1
theorem ms_aldq (hexec : p.tables.exec = Jvm.exec) (hb : c.code = cc) (hK : va_K D cl tys s) (hP : va_P D cl ws H) (q0 t0 : Nat) {cA : ClassId} {ty : FieldType} (hr : ty.isReference = true) {n : Nat} {f : Nat → Option Nat} (ha : ws[q0]? = some (a, .inl (cA, n, .inr (.inr (.inr (.inr f)))))) (ht : tys[t0]? = some (cA, ty)) {i : Int32} (hin : vp_in i n) (hdg : decode cc pc = .ok (.aaload, 1))
    (kk : W p l e R s m args below meth c H locs cells slots Q (F0 m (pc + 1) ls (va_rf (f i.toNatClampNeg) :: rest))) : W p l e R s m args below meth c H locs cells slots Q (F0 m pc ls (.int i :: .ref a :: rest)) := by
  have hlt : i.toNatClampNeg < n := Nat.not_le.mp fun q => hin (Or.inr q)
  exact W.aald (v := va_rf (f i.toNatClampNeg)) (ty := ty) hexec hb (hP q0 _ ha) ((hK.2 t0 _ ht).1 n (fun j => va_rf (f j))) hr (fun q => by cases q) (by show ¬ (i < 0 ∨ (arrV _ _ _).slots.size ≤ _); rw [arrV_size]; exact hin) (by show (arrV _ _ _).slots[_]? = _; rw [arrV_read _ _ hlt]) rfl rfl hdg kk
end HEAPROWS
section HEAPOPS
variable (l : Launch) (D : va_G) (AC : Nat → ClassId) (b z L : Nat) (xs : Nat → Int32) (G : Pg) {j pc : Nat}
theorem tyL_at {t : Nat} (h : t < nA) : (tyL AC)[t]? = some (AC t, kA t) := by
  unfold tyL
  rw [List.getElem?_map, List.getElem?_range h]
  rfl
theorem id_pos {h : Hp} {a ci : Nat} (hb : Bd L xs h) (hk : kd h a = ci) (h1 : ci < 100) : ∃ i, a = i + 1 := by
  cases a with
  | zero => rw [hb.2.2.2.2.2] at hk; omega
  | succ i => exact ⟨i, rfl⟩
theorem sn_getI {ci k N idx : Nat} {C : String} {T : u_T} (hd : decode (mC j) pc = .ok (.getfield idx, 3)) (hc : kN[ci]? = some (C, T, N)) (hk : k < N) (hf : kF ci k = 0) (h1 : ci < 100) (hin : ∀ w ∈ u_ws C T N, w ∈ TBg) (hl : Cond.fieldLink (mO j) idx (T k).1 (T k).2.1 (T k).2.2.1 ∈ TBg) : Snd l D AC b z L xs G j pc (oGetI ci k (pc + 3)) := by
  intro ls st h Q kk p e R s m args below meth c QQ X E H locs lsR cells slots hP hS hB hL
  unfold oGetI at kk
  split at kk
  · split at kk
    · rename_i a r hK
      obtain ⟨h2, h3⟩ := isK_spec hK
      obtain ⟨i, rfl⟩ := id_pos L xs hB.2.2 h3 h1
      have he := wl_get AC b z h2
      rw [cE_obj AC b z hc h3 h1] at he
      refine va_get (D := D) (ci := ci) (C := C) (T := T) (N := N) X.1 X.2.1 X.2.2.2.2.2.1 hin X.2.2.2.2.1 X.2.2.2.2.2.2.2.2.2.1.1 hP i he hc k hk (X.2.2.2.2.2.1 _ hl) (fun _ h9 => h9) (v := .int (gI h (i + 1) k)) ?_ hd (kk p e R s m args below meth c QQ X E H locs lsR cells slots hP hS hB hL)
      rw [List.getElem?_map, List.getElem?_range hk]
      simp [fV, hf]
    · exact kk.elim
  · exact kk.elim
theorem sn_getR {ci k N idx : Nat} {C : String} {T : u_T} (hd : decode (mC j) pc = .ok (.getfield idx, 3)) (hc : kN[ci]? = some (C, T, N)) (hk : k < N) (hf : kF ci k = 1) (h1 : ci < 100) (hin : ∀ w ∈ u_ws C T N, w ∈ TBg) (hl : Cond.fieldLink (mO j) idx (T k).1 (T k).2.1 (T k).2.2.1 ∈ TBg) : Snd l D AC b z L xs G j pc (oGetR ci k (pc + 3)) := by
  intro ls st h Q kk p e R s m args below meth c QQ X E H locs lsR cells slots hP hS hB hL
  unfold oGetR at kk
  split at kk
  · split at kk
    · rename_i a r hK
      obtain ⟨h2, h3⟩ := isK_spec hK
      obtain ⟨i, rfl⟩ := id_pos L xs hB.2.2 h3 h1
      have he := wl_get AC b z h2
      rw [cE_obj AC b z hc h3 h1] at he
      refine va_get (D := D) (ci := ci) (C := C) (T := T) (N := N) X.1 X.2.1 X.2.2.2.2.2.1 hin X.2.2.2.2.1 X.2.2.2.2.2.2.2.2.2.1.1 hP i he hc k hk (X.2.2.2.2.2.1 _ hl) (fun _ h9 => h9) (v := va_rf ((gR h (i + 1) k).map (adr b z))) ?_ hd (kk p e R s m args below meth c QQ X E H locs lsR cells slots hP hS hB hL)
      rw [List.getElem?_map, List.getElem?_range hk]
      simp [fV, hf]
    · exact kk.elim
  · exact kk.elim
theorem sn_putI0 {ci k N idx : Nat} {C : String} {T : u_T} {ty0 : Nat → FieldType} (hc : kN[ci]? = some (C, T, N)) (hk : k < N) (hf : kF ci k = 0) (h1 : ci < 100) (hin : ∀ w ∈ u_ws C T N, w ∈ TBg) (hty : ∀ k, k < N → parseFieldDescriptor (T k).2.2.1 = some (ty0 k)) (hnm : ∀ a, a < N → ∀ b, b < N → a ≠ b → (T a).2.1 ≠ (T b).2.1) (hl : Cond.fieldLink (mO j) idx (T k).1 (T k).2.1 (T k).2.2.1 ∈ TBg) (hfin : (T k).2.2.2 = false) (hd : decode (mC j) pc = .ok (.putfield idx, 3))
    {ls : Lo} {r : Sk} {h : Hp} {Q : MRes → Hp → Prop} {a : Nat} {x : Int32} (hn : narrow (ty0 k) (.int x) = .int x) (hfit : fits (ty0 k) (.int x) = true) (hK : isK h a ci = true) (kk : RX l D AC b z L xs j (pc + 3) ls r (sI h a k x) Q) : RX l D AC b z L xs j pc ls (.inl x :: .inr (.inl (some a)) :: r) h Q := by
  intro p e R s m args below meth c QQ X E H locs lsR cells slots hP hS hB hL
  obtain ⟨h2, h3⟩ := isK_spec hK
  obtain ⟨i, rfl⟩ := id_pos L xs hB.2.2 h3 h1
  have he := wl_get AC b z h2
  rw [cE_obj AC b z hc h3 h1] at he
  refine va_put (D := D) (ci := ci) (v := .int x) (ty := ty0 k) (C := C) (T := T) (N := N) X.1 X.2.1 X.2.2.2.2.2.1 hin ty0 hty hnm X.2.2.2.2.1 X.2.2.2.2.2.2.2.2.2.1.1 hP (wl_D AC b z h) hS i he hc k hk (X.2.2.2.2.2.1 _ hl) (fun _ h9 => h9) hfin (hty k hk) hn hfit (by rw [List.length_map, List.length_range]; exact hk) hd (fun H1 locs1 hP1 _ hS1 => ?_)
  rw [wl_set AC b z (h' := sI h (i + 1) k x) h2 rfl ?_ (fun c9 h9 => cE_sI AC b z h9)] at hP1
  · exact kk p e R s m args below meth c QQ X E H1 locs1 lsR cells slots hP1 hS1 ⟨hB.1, hB.2.1, Bd_sI L xs (Nat.succ_ne_zero i) hB.2.2⟩ hL
  · rw [cE_obj AC b z (h := sI h (i + 1) k x) hc h3 h1, map_set (fun q hq => ?_)]
    unfold fV
    by_cases hqk : q = k
    · subst hqk
      rw [hf, if_pos rfl]
      show Value.int (gI (sI h (i + 1) q x) (i + 1) q) = _
      rw [gI_sI, if_pos ⟨rfl, rfl⟩]
    · rw [if_neg hqk, gI_sI, if_neg (fun w => hqk w.2)]
      rfl
theorem sn_putI {ci k N idx : Nat} {C : String} {T : u_T} {ty0 : Nat → FieldType} (hd : decode (mC j) pc = .ok (.putfield idx, 3)) (hc : kN[ci]? = some (C, T, N)) (hk : k < N) (hf : kF ci k = 0) (h1 : ci < 100) (hin : ∀ w ∈ u_ws C T N, w ∈ TBg) (hty : ∀ k, k < N → parseFieldDescriptor (T k).2.2.1 = some (ty0 k)) (hnm : ∀ a, a < N → ∀ b, b < N → a ≠ b → (T a).2.1 ≠ (T b).2.1) (hl : Cond.fieldLink (mO j) idx (T k).1 (T k).2.1 (T k).2.2.1 ∈ TBg) (hfin : (T k).2.2.2 = false) (ht : ty0 k = .int) : Snd l D AC b z L xs G j pc (oPutI ci k (pc + 3)) := by
  intro ls st h Q kk
  unfold oPutI at kk
  split at kk
  · split at kk
    · rename_i hK
      exact sn_putI0 l D AC b z L xs hc hk hf h1 hin hty hnm hl hfin hd (by rw [ht]; rfl) (by rw [ht]; rfl) hK kk
    · exact kk.elim
  · exact kk.elim
theorem sn_putZ {ci k N idx : Nat} {C : String} {T : u_T} {ty0 : Nat → FieldType} (hd : decode (mC j) pc = .ok (.putfield idx, 3)) (hc : kN[ci]? = some (C, T, N)) (hk : k < N) (hf : kF ci k = 0) (h1 : ci < 100) (hin : ∀ w ∈ u_ws C T N, w ∈ TBg) (hty : ∀ k, k < N → parseFieldDescriptor (T k).2.2.1 = some (ty0 k)) (hnm : ∀ a, a < N → ∀ b, b < N → a ≠ b → (T a).2.1 ≠ (T b).2.1) (hl : Cond.fieldLink (mO j) idx (T k).1 (T k).2.1 (T k).2.2.1 ∈ TBg) (hfin : (T k).2.2.2 = false) (ht : ty0 k = .boolean) : Snd l D AC b z L xs G j pc (oPutZ ci k (pc + 3)) := by
  intro ls st h Q kk
  unfold oPutZ at kk
  split at kk
  · split at kk
    · rename_i x a r hK
      simp only [Bool.and_eq_true, Bool.or_eq_true, decide_eq_true_eq] at hK
      obtain ⟨hK, hx⟩ := hK
      have hn : narrow (ty0 k) (.int x) = .int x ∧ fits (ty0 k) (.int x) = true := by
        rw [ht]
        rcases hx with rfl | rfl <;> exact ⟨by decide, by decide⟩
      exact sn_putI0 l D AC b z L xs hc hk hf h1 hin hty hnm hl hfin hd hn.1 hn.2 hK kk
    · exact kk.elim
  · exact kk.elim
theorem cE_putR {h : Hp} {i k ci N : Nat} {C : String} {T : u_T} {v : Option Nat} (hc : kN[ci]? = some (C, T, N)) (h3 : kd h (i + 1) = ci) (hf : kF ci k = 1) (h1 : ci < 100) : cE AC b z (sR h (i + 1) k v) (i + 1) = .inr (ci, ((List.range N).map (fV b z h (i + 1) ci)).set k (va_rf (v.map (adr b z)))) := by
  rw [cE_obj AC b z (h := sR h (i + 1) k v) hc h3 h1, map_set (fun q hq => ?_)]
  unfold fV
  by_cases hqk : q = k
  · subst hqk
    rw [hf, if_pos rfl]
    show va_rf ((gR (sR h (i + 1) q v) (i + 1) q).map _) = _
    rw [gR_sR, if_pos ⟨rfl, rfl⟩]
  · rw [if_neg hqk, gR_sR, if_neg (fun w => hqk w.2)]
    rfl
theorem ref_fits {ty : FieldType} (ht : (∃ n, ty = .object n) ∨ ∃ t, ty = .array t) (r : Option Nat) : narrow ty (va_rf r) = va_rf r ∧ fits ty (va_rf r) = true := by
  rcases ht with ⟨n, rfl⟩ | ⟨t, rfl⟩ <;> cases r <;> exact ⟨rfl, rfl⟩
theorem sn_putR {ci k N idx : Nat} {C : String} {T : u_T} {ty0 : Nat → FieldType} (hd : decode (mC j) pc = .ok (.putfield idx, 3)) (hc : kN[ci]? = some (C, T, N)) (hk : k < N) (hf : kF ci k = 1) (h1 : ci < 100) (hin : ∀ w ∈ u_ws C T N, w ∈ TBg) (hty : ∀ k, k < N → parseFieldDescriptor (T k).2.2.1 = some (ty0 k)) (hnm : ∀ a, a < N → ∀ b, b < N → a ≠ b → (T a).2.1 ≠ (T b).2.1) (hl : Cond.fieldLink (mO j) idx (T k).1 (T k).2.1 (T k).2.2.1 ∈ TBg) (hfin : (T k).2.2.2 = false) (ht : (∃ n, ty0 k = .object n) ∨ ∃ t, ty0 k = .array t) : Snd l D AC b z L xs G j pc (oPutR ci k (pc + 3)) := by
  intro ls st h Q kk p e R s m args below meth c QQ X E H locs lsR cells slots hP hS hB hL
  unfold oPutR at kk
  split at kk
  · split at kk
    · rename_i x a r hK
      obtain ⟨h2, h3⟩ := isK_spec hK
      obtain ⟨i, rfl⟩ := id_pos L xs hB.2.2 h3 h1
      have he := wl_get AC b z h2
      rw [cE_obj AC b z hc h3 h1] at he
      refine va_put (D := D) (ci := ci) (v := va_rf (x.map (adr b z))) (ty := ty0 k) (C := C) (T := T) (N := N) X.1 X.2.1 X.2.2.2.2.2.1 hin ty0 hty hnm X.2.2.2.2.1 X.2.2.2.2.2.2.2.2.2.1.1 hP (wl_D AC b z h) hS i he hc k hk (X.2.2.2.2.2.1 _ hl) (fun _ h9 => h9) hfin (hty k hk) (ref_fits ht _).1 (ref_fits ht _).2 (by rw [List.length_map, List.length_range]; exact hk) hd (fun H1 locs1 hP1 _ hS1 => ?_)
      rw [wl_set AC b z (h' := sR h (i + 1) k x) h2 rfl (cE_putR AC b z hc h3 hf h1) (fun c9 h9 => cE_sR AC b z h9)] at hP1
      exact kk p e R s m args below meth c QQ X E H1 locs1 lsR cells slots hP1 hS1 hB hL
    · exact kk.elim
  · exact kk.elim
theorem sn_putRF {ci k N idx : Nat} {C : String} {T : u_T} {ty0 : Nat → FieldType} (hd : decode (mC j) pc = .ok (.putfield idx, 3)) (hc : kN[ci]? = some (C, T, N)) (hk : k < N) (hf : kF ci k = 1) (h1 : ci < 100) (hin : ∀ w ∈ u_ws C T N, w ∈ TBg) (hty : ∀ k, k < N → parseFieldDescriptor (T k).2.2.1 = some (ty0 k)) (hnm : ∀ a, a < N → ∀ b, b < N → a ≠ b → (T a).2.1 ≠ (T b).2.1) (hl : Cond.fieldLink (mO j) idx (T k).1 (T k).2.1 (T k).2.2.1 ∈ TBg) (hfin : (T k).2.2.2 = true) (hi : (mY j).name = "<init>") (hdecl : (T k).1 = mO j) (ht : (∃ n, ty0 k = .object n) ∨ ∃ t, ty0 k = .array t) : Snd l D AC b z L xs G j pc (oPutR ci k (pc + 3)) := by
  intro ls st h Q kk p e R s m args below meth c QQ X E H locs lsR cells slots hP hS hB hL
  unfold oPutR at kk
  split at kk
  · split at kk
    · rename_i x a r hK
      obtain ⟨h2, h3⟩ := isK_spec hK
      obtain ⟨i, rfl⟩ := id_pos L xs hB.2.2 h3 h1
      have he := wl_get AC b z h2
      rw [cE_obj AC b z hc h3 h1] at he
      refine va_putF (D := D) (ci := ci) (v := va_rf (x.map (adr b z))) (ty := ty0 k) (C := C) (T := T) (N := N) X.1 X.2.1 X.2.2.2.2.2.1 hin ty0 hty hnm X.2.2.2.2.1 X.2.2.2.2.2.2.2.2.2.1.1 hP (wl_D AC b z h) hS i he hc k hk (X.2.2.2.2.2.1 _ hl) (fun _ h9 => h9) hfin (X.2.2.2.2.2.2.2.1.trans hi) hdecl (hty k hk) (ref_fits ht _).1 (ref_fits ht _).2 (by rw [List.length_map, List.length_range]; exact hk) hd (fun H1 locs1 hP1 _ hS1 => ?_)
      rw [wl_set AC b z (h' := sR h (i + 1) k x) h2 rfl (cE_putR AC b z hc h3 hf h1) (fun c9 h9 => cE_sR AC b z h9)] at hP1
      exact kk p e R s m args below meth c QQ X E H1 locs1 lsR cells slots hP1 hS1 hB hL
    · exact kk.elim
  · exact kk.elim
end HEAPOPS
end
section
/-! arrays, makings, ends, calls -/
section ARRAYS
variable (l : Launch) (D : va_G) (AC : Nat → ClassId) (b z L : Nat) (xs : Nat → Int32) (G : Pg) {j pc : Nat}
theorem and2 {x y : Bool} (h : (x && y) = true) : x = true ∧ y = true := by
  rw [Bool.and_eq_true] at h
  exact h
theorem aV_int {h : Hp} {a t : Nat} (he : kE t = 0) : aV b z h a t = .inl (gI h a) := by unfold aV; simp only [he]
theorem aV_ref {h : Hp} {a t : Nat} (he : kE t = 1) : aV b z h a t = .inr (.inr (.inr (.inr (fun j => (gR h a j).map (adr b z))))) := by unfold aV; simp only [he]
theorem aV_long {h : Hp} {a t : Nat} (he : kE t = 2) : aV b z h a t = .inr (.inl (gL h a)) := by unfold aV; simp only [he]
theorem sn_iaload {t : Nat} (hd : decode (mC j) pc = .ok (.iaload, 1)) (ht : t < nA) (hk : kA t = .int) (he : kE t = 0) (h0 : t = 0) : Snd l D AC b z L xs G j pc (oIal t (pc + 1)) := by
  intro ls st h Q kk p e R s m args below meth c QQ X E H locs lsR cells slots hP hS hB hL
  unfold oIal at kk
  split at kk
  · split at kk
    · rename_i i a r hK
      obtain ⟨h1, h2⟩ := and2 hK
      obtain ⟨h3, h4⟩ := isK_spec h1
      have h5 := inL_spec h2
      have go := kk p e R s m args below meth c QQ X E H locs lsR cells slots hP hS hB hL
      cases a with
      | zero =>
        obtain ⟨-, -, -, -, -, -, -, -, -, h6, h7⟩ := X.2.2.2.2.2.2.2.2.2.1
        have hz : z ≤ s.heap.size := X.2.2.2.2.2.2.2.2.2.2.1
        rw [hB.2.2.2.2.2.2.1] at h5
        have e1 : gI h 0 i.toNatClampNeg = xs i.toNatClampNeg := hB.2.2.2.2.2.1 _ (by
          rcases Nat.lt_or_ge i.toNatClampNeg L with q | q
          · exact q
          · exact absurd (Or.inr q) h5)
        refine va_sld X.1 X.2.1 h6 (Nat.lt_of_lt_of_le h7 hz) (fun q => Nat.not_le.mpr h7 q) hS h5 hd ?_
        rw [← e1]
        exact go
      | succ q =>
        have hg := wl_get AC b z h3
        rw [cE_arr AC b z h4, aV_int b z he] at hg
        refine va_iald (D := D) X.1 X.2.1 X.2.2.2.2.2.2.2.2.2.1.1 hP q t hg (by rw [tyL_at AC ht, hk]) h5 hd ?_
        exact go
    · exact kk.elim
  · exact kk.elim
theorem sn_laload {t : Nat} (hd : decode (mC j) pc = .ok (.laload, 1)) (ht : t < nA) (hk : kA t = .long) (he : kE t = 2) (h0 : t ≠ 0) : Snd l D AC b z L xs G j pc (oLal t (pc + 1)) := by
  intro ls st h Q kk p e R s m args below meth c QQ X E H locs lsR cells slots hP hS hB hL
  unfold oLal at kk
  split at kk
  · split at kk
    · rename_i i a r hK
      obtain ⟨h1, h2⟩ := and2 hK
      obtain ⟨h3, h4⟩ := isK_spec h1
      have h5 := inL_spec h2
      cases a with
      | zero => rw [hB.2.2.2.2.2.2.2] at h4; omega
      | succ q =>
        have hg := wl_get AC b z h3
        rw [cE_arr AC b z h4, aV_long b z he] at hg
        refine va_lald (D := D) X.1 X.2.1 X.2.2.2.2.2.2.2.2.2.1.1 hP q t hg (by rw [tyL_at AC ht, hk]) h5 hd ?_
        exact kk p e R s m args below meth c QQ X E H locs lsR cells slots hP hS hB hL
    · exact kk.elim
  · exact kk.elim
theorem sn_aaload {t : Nat} (hd : decode (mC j) pc = .ok (.aaload, 1)) (ht : t < nA) (hk : (kA t).isReference = true) (he : kE t = 1) (h0 : t ≠ 0) : Snd l D AC b z L xs G j pc (oAal t (pc + 1)) := by
  intro ls st h Q kk p e R s m args below meth c QQ X E H locs lsR cells slots hP hS hB hL
  unfold oAal at kk
  split at kk
  · split at kk
    · rename_i i a r hK
      obtain ⟨h1, h2⟩ := and2 hK
      obtain ⟨h3, h4⟩ := isK_spec h1
      have h5 := inL_spec h2
      cases a with
      | zero => rw [hB.2.2.2.2.2.2.2] at h4; omega
      | succ q =>
        have hg := wl_get AC b z h3
        rw [cE_arr AC b z h4, aV_ref b z he] at hg
        refine ms_aldq (D := D) X.1 X.2.1 X.2.2.2.2.2.2.2.2.2.1.1 hP q t hk hg (tyL_at AC ht) h5 hd ?_
        exact kk p e R s m args below meth c QQ X E H locs lsR cells slots hP hS hB hL
    · exact kk.elim
  · exact kk.elim
theorem sn_iastore {t : Nat} (hd : decode (mC j) pc = .ok (.iastore, 1)) (ht : t < nA) (hk : kA t = .int) (he : kE t = 0) : Snd l D AC b z L xs G j pc (oIas t (pc + 1)) := by
  intro ls st h Q kk p e R s m args below meth c QQ X E H locs lsR cells slots hP hS hB hL
  unfold oIas at kk
  split at kk
  · split at kk
    · rename_i x i a r hK
      obtain ⟨hK, h9⟩ := and2 hK
      obtain ⟨h1, h2⟩ := and2 hK
      obtain ⟨h3, h4⟩ := isK_spec h1
      have h5 := inL_spec h2
      have h6 : a ≠ 0 := of_decide_eq_true h9
      obtain ⟨q, rfl⟩ : ∃ q, a = q + 1 := ⟨a - 1, by omega⟩
      have hg := wl_get AC b z h3
      rw [cE_arr AC b z h4, aV_int b z he] at hg
      refine va_iast (D := D) X.1 X.2.1 X.2.2.2.2.2.2.2.2.2.1.1 hP (wl_D AC b z h) hS q t hg (by rw [tyL_at AC ht, hk]) h5 hd (fun H1 locs1 hP1 _ hS1 => ?_)
      rw [wl_set AC b z (h' := sI h (q + 1) i.toNatClampNeg x) h3 rfl ?_ (fun c9 h9 => cE_sI AC b z h9)] at hP1
      · exact kk p e R s m args below meth c QQ X E H1 locs1 lsR cells slots hP1 hS1 ⟨hB.1, hB.2.1, Bd_sI L xs h6 hB.2.2⟩ hL
      · rw [cE_arr AC b z (h := sI h (q + 1) i.toNatClampNeg x) h4, aV_int b z he]
        have e1 : gI (sI h (q + 1) i.toNatClampNeg x) (q + 1) = upd (gI h (q + 1)) i.toNatClampNeg x := by
          funext k
          rw [gI_sI]
          unfold upd
          by_cases hk9 : k = i.toNatClampNeg
          · rw [if_pos ⟨rfl, hk9⟩, if_pos hk9]
          · rw [if_neg (fun w => hk9 w.2), if_neg hk9]
        rw [e1]
        rfl
    · exact kk.elim
  · exact kk.elim
theorem sn_lastore {t : Nat} (hd : decode (mC j) pc = .ok (.lastore, 1)) (ht : t < nA) (hk : kA t = .long) (he : kE t = 2) (h0 : t ≠ 0) : Snd l D AC b z L xs G j pc (oLas t (pc + 1)) := by
  intro ls st h Q kk p e R s m args below meth c QQ X E H locs lsR cells slots hP hS hB hL
  unfold oLas at kk
  split at kk
  · split at kk
    · rename_i x i a r hK
      obtain ⟨h1, h2⟩ := and2 hK
      obtain ⟨h3, h4⟩ := isK_spec h1
      have h5 := inL_spec h2
      cases a with
      | zero => rw [hB.2.2.2.2.2.2.2] at h4; omega
      | succ q =>
        have hg := wl_get AC b z h3
        rw [cE_arr AC b z h4, aV_long b z he] at hg
        refine va_last (D := D) X.1 X.2.1 X.2.2.2.2.2.2.2.2.2.1.1 hP (wl_D AC b z h) hS q t hg (by rw [tyL_at AC ht, hk]) h5 hd (fun H1 locs1 hP1 _ hS1 => ?_)
        rw [wl_set AC b z (h' := sL h (q + 1) i.toNatClampNeg x) h3 rfl ?_ (fun c9 h9 => cE_sL AC b z h9)] at hP1
        · exact kk p e R s m args below meth c QQ X E H1 locs1 lsR cells slots hP1 hS1 hB hL
        · rw [cE_arr AC b z (h := sL h (q + 1) i.toNatClampNeg x) h4, aV_long b z he]
          have e1 : gL (sL h (q + 1) i.toNatClampNeg x) (q + 1) = vp_updL (gL h (q + 1)) i.toNatClampNeg x := by
            funext k
            rw [gL_sL]
            unfold vp_updL
            by_cases hk9 : k = i.toNatClampNeg
            · rw [if_pos ⟨rfl, hk9⟩, if_pos hk9]
            · rw [if_neg (fun w => hk9 w.2), if_neg hk9]
          rw [e1]
          rfl
    · exact kk.elim
  · exact kk.elim
theorem sn_aastore {t ci N : Nat} {C : String} {T : u_T} (hd : decode (mC j) pc = .ok (.aastore, 1)) (ht : t < nA) (hk : kA t = .object C) (he : kE t = 1) (h0 : t ≠ 0) (hc : kN[ci]? = some (C, T, N)) (h100 : ci < 100) : Snd l D AC b z L xs G j pc (oAas t ci (pc + 1)) := by
  intro ls st h Q kk p e R s m args below meth c QQ X E H locs lsR cells slots hP hS hB hL
  unfold oAas at kk
  split at kk
  · split at kk
    · rename_i x i a r hK
      obtain ⟨hK, h9⟩ := and2 hK
      obtain ⟨h1, h2⟩ := and2 hK
      obtain ⟨h3, h4⟩ := isK_spec h1
      obtain ⟨h6, h7⟩ := isK_spec h9
      have h5 := inL_spec h2
      obtain ⟨y, rfl⟩ := id_pos L xs hB.2.2 h7 h100
      cases a with
      | zero => rw [hB.2.2.2.2.2.2.2] at h4; omega
      | succ q =>
        have hg := wl_get AC b z h3
        rw [cE_arr AC b z h4, aV_ref b z he] at hg
        have hy := wl_get AC b z h6
        rw [cE_obj AC b z hc h7 h100] at hy
        refine va_astq (D := D) X.1 X.2.1 X.2.2.2.2.2.2.2.2.2.1.1 hP (wl_D AC b z h) hS q t y ci (r := (C, T, N)) hg (by rw [tyL_at AC ht, hk]) hy hc h5 hd (fun H1 locs1 hP1 _ hS1 => ?_)
        rw [wl_set AC b z (h' := sR h (q + 1) i.toNatClampNeg (some (y + 1))) h3 rfl ?_ (fun c9 h9 => cE_sR AC b z h9)] at hP1
        · exact kk p e R s m args below meth c QQ X E H1 locs1 lsR cells slots hP1 hS1 hB hL
        · rw [cE_arr AC b z (h := sR h (q + 1) i.toNatClampNeg (some (y + 1))) h4, aV_ref b z he]
          have e1 : (fun k => (gR (sR h (q + 1) i.toNatClampNeg (some (y + 1))) (q + 1) k).map (adr b z)) = va_up (fun k => (gR h (q + 1) k).map (adr b z)) i.toNatClampNeg (some (z + y)) := by
            funext k
            rw [gR_sR]
            unfold va_up
            by_cases hk9 : k = i.toNatClampNeg
            · rw [if_pos ⟨rfl, hk9⟩, if_pos hk9]
              rfl
            · rw [if_neg (fun w => hk9 w.2), if_neg hk9]
          rw [e1]
          rfl
    · exact kk.elim
  · exact kk.elim
theorem sn_alen {t : Nat} (hd : decode (mC j) pc = .ok (.arraylength, 1)) (ht : t < nA) : Snd l D AC b z L xs G j pc (oLen t (pc + 1)) := by
  intro ls st h Q kk p e R s m args below meth c QQ X E H locs lsR cells slots hP hS hB hL
  unfold oLen at kk
  split at kk
  · split at kk
    · rename_i a r hK
      obtain ⟨h3, h4⟩ := isK_spec hK
      have go := kk p e R s m args below meth c QQ X E H locs lsR cells slots hP hS hB hL
      cases a with
      | zero =>
        obtain ⟨-, -, -, -, -, -, -, -, -, h6, h7⟩ := X.2.2.2.2.2.2.2.2.2.1
        have hz : z ≤ s.heap.size := X.2.2.2.2.2.2.2.2.2.2.1
        refine va_slen X.1 X.2.1 h6 (Nat.lt_of_lt_of_le h7 hz) (fun q => Nat.not_le.mpr h7 q) hS hd ?_
        rw [hB.2.2.2.2.2.2.1] at go
        exact go
      | succ q =>
        have hg := wl_get AC b z h3
        rw [cE_arr AC b z h4] at hg
        refine va_alen (D := D) X.1 X.2.1 X.2.2.2.2.2.2.2.2.2.1.1 hP q t hg (tyL_at AC ht) rfl hd ?_
        exact go
    · exact kk.elim
  · exact kk.elim
end ARRAYS
section MAKES
variable (l : Launch) (D : va_G) (AC : Nat → ClassId) (b z L : Nat) (xs : Nat → Int32) (G : Pg) {j pc : Nat}
theorem okR_spec {h : Hp} {n s : Nat} (hr : okR cM sM h n s = true) : nx h + n ≤ cM + 1 ∧ sc h + s ≤ sM := by
  unfold okR at hr
  simp only [Bool.and_eq_true, decide_eq_true_eq] at hr
  exact hr
theorem top_size {s : State} {h : Hp} {H : Heap} {locs : List Loc} {cells slots : Nat} (hz : z ≤ s.heap.size) (hP : va_P D kN (wl AC b z h) H) (hS : va_S (Az z) s.heap H locs) (hB : Bg z L xs s h cells slots) (f2 : H.size ≤ s.heap.size + cells) : H.size = z + (nx h - 1) := by
  have h1 := wl_size D AC b z hP hB.2.2.2.2.1 (Nat.le_trans hz hS.1)
  have h2 := hB.1
  have h3 := hB.2.2.2.2.1
  omega
theorem top_ref {h : Hp} (h1 : 1 ≤ nx h) : Value.ref (z + (nx h - 1)) = toV b z (.inr (.inl (some (nx h)))) := by
  obtain ⟨k, hk⟩ : ∃ k, nx h = k + 1 := ⟨nx h - 1, by omega⟩
  rw [hk]
  rfl
theorem sn_new {ci N idx : Nat} {C : String} {T : u_T} {ty0 : Nat → FieldType} (hd : decode (mC j) pc = .ok (.new idx, 3)) (hc : kN[ci]? = some (C, T, N)) (h100 : ci < 100) (hin : ∀ w ∈ u_ws C T N, w ∈ TBg) (hty : ∀ k, k < N → parseFieldDescriptor (T k).2.2.1 = some (ty0 k)) (hdf : ∀ k, k < N → (kF ci k = 0 ∧ defaultValue (ty0 k) = .int 0) ∨ (kF ci k = 1 ∧ defaultValue (ty0 k) = .null) ∨ (kF ci k = 2 ∧ defaultValue (ty0 k) = .long 0) ∨ (kF ci k = 3 ∧ defaultValue (ty0 k) = .double 0))
    (w1 : Cond.classLink (mO j) idx C ∈ TBg) (w2 : Cond.instantiable C N ∈ TBg) (w3 : Cond.initialized C ∈ TBg) : Snd l D AC b z L xs G j pc (oNew cM sM ci N (pc + 3)) := by
  intro ls st h Q kk p e R s m args below meth c QQ X E H locs lsR cells slots hP hS hB hL
  unfold oNew at kk
  split at kk
  · rename_i hR
    obtain ⟨r1, r2⟩ := okR_spec hR
    have hz : z ≤ s.heap.size := X.2.2.2.2.2.2.2.2.2.2.1
    obtain ⟨-, -, -, g1, g2, -⟩ := X.2.2.2.2.2.2.2.2.2.2
    refine w_facts hz fun f1 f2 f3 => ?_
    have ht := top_size D AC b z L xs hz hP hS hB f2
    obtain ⟨b1, b2, b3⟩ := hB
    refine ms_new (fs := (List.range N).map (fV b z (hN h ci 0 N) (nx h) ci)) X.1 X.2.1 X.2.2.2.2.2.1 hin ty0 hty X.2.2.2.2.1 (X.2.2.2.2.2.1 _ w1) (X.2.2.2.2.2.1 _ w2) (X.2.2.2.2.2.1 _ w3) X.2.2.2.2.2.2.2.2.2.1.1 hP hS hc ?_ (by omega) (by omega) hd (fun H1 hP1 hS1 => ?_)
    · intro k hk
      unfold vp_V
      rw [List.getD_eq_getElem?_getD, List.getElem?_map, List.getElem?_range hk]
      show _ = fV b z (hN h ci 0 N) (nx h) ci k
      unfold fV
      rcases hdf k hk with ⟨q1, q2⟩ | ⟨q1, q2⟩ | ⟨q1, q2⟩ | ⟨q1, q2⟩
      · rw [q1, q2]; show _ = Value.int _; rw [gI_hN, if_pos rfl]
      · rw [q1, q2]; show _ = va_rf _; rw [gR_hN, if_pos rfl]; rfl
      · rw [q1, q2]; show _ = Value.long _; rw [gL_hN, if_pos rfl]
      · rw [q1, q2]; show _ = Value.double _; rw [gD_hN, if_pos rfl]
    · rw [ht, top_ref b z b3.2.2.1]
      refine kk p e R s m args below meth c QQ X E H1 locs lsR (cells + 1) (slots + N) ?_ hS1 ⟨?_, ?_, Bd_hN L xs hR b3⟩ hL
      · rw [wl_push AC b z (h := h) (h' := hN h ci 0 N) b3.2.2.1 rfl (fun a ha => cE_hN AC b z (by omega)), cE_obj AC b z hc (by rw [kd_hN, if_pos rfl]) h100, ← ht]
        exact hP1
      · rw [nx_hN]; omega
      · rw [sc_hN]; omega
  · exact kk.elim
theorem arr_name {AC : Nat → ClassId} {s : State} {t : Nat} (hK : va_K D kN (tyL AC) s) (ht : t < nA) : va_RA s (AC t) (kA t) := (hK.2 t _ (tyL_at AC ht)).2
theorem sn_newarray {t : Nat} {at9 : ArrayType} {ty : FieldType} (hd : decode (mC j) pc = .ok (.newarray at9, 2)) (h9 : newarray.typeOf at9 = ty) (ht : t < nA) (hk : kA t = ty) (hcb : componentBytes ty ≤ 8) (hty : (kE t = 0 ∧ defaultValue ty = .int 0 ∧ (∀ (s : State) (cA : ClassId), va_RA s cA ty → s.vm.findClass ("[" ++ ty.toString) = some cA)) ∨ (kE t = 2 ∧ defaultValue ty = .long 0 ∧ (∀ (s : State) (cA : ClassId), va_RA s cA ty → s.vm.findClass ("[" ++ ty.toString) = some cA))) (w1 : Cond.arrayClass (newarray.typeOf at9) ∈ TBg) : Snd l D AC b z L xs G j pc (oNewA cM sM t (pc + 2)) := by
  intro ls st h Q kk p e R s m args below meth c QQ X E H locs lsR cells slots hP hS hB hL
  unfold oNewA at kk
  split at kk
  · split at kk
    · rename_i i r hR
      obtain ⟨hR, hR3⟩ := and2 hR
      obtain ⟨hR1, hR2⟩ := and2 hR
      obtain ⟨r1, r2⟩ := okR_spec hR3
      have i1 : 0 ≤ i := of_decide_eq_true hR1
      have i2 : i.toNatClampNeg ≤ 1000000 := of_decide_eq_true hR2
      have hz : z ≤ s.heap.size := X.2.2.2.2.2.2.2.2.2.2.1
      obtain ⟨-, -, -, g1, g2, -⟩ := X.2.2.2.2.2.2.2.2.2.2
      refine w_facts hz fun f1 f2 f3 => ?_
      have htp := top_size D AC b z L xs hz hP hS hB f2
      obtain ⟨b1, b2, b3⟩ := hB
      have hra := arr_name D X.2.2.2.2.2.2.2.2.2.1.1 ht
      rw [hk] at hra
      have hfc : s.vm.findClass ("[" ++ ty.toString) = some (AC t) := hty.elim (fun q => q.2.2 s _ hra) (fun q => q.2.2 s _ hra)
      refine ms_newa (D := D) (cl := kN) (a0 := (i.toNatClampNeg, aV b z (hN h (100 + t) i.toNatClampNeg i.toNatClampNeg) (nx h) t)) X.1 X.2.1 (X.2.2.2.2.2.1 _ w1) h9 hfc hP hS ?_ (Int32.not_lt.mpr i1) rfl ?_ (by omega) (by omega) hd (fun H1 hP1 hS1 => ?_)
      · intro cA
        rcases hty with ⟨q1, q2, -⟩ | ⟨q1, q2, -⟩
        · rw [aV_int b z q1, vp_cell_i, q2]
          congr 1
          funext k
          rw [gI_hN, if_pos rfl]
        · rw [aV_long b z q1, vp_cell_l, q2]
          congr 1
          funext k
          rw [gL_hN, if_pos rfl]
      · have := Nat.mul_le_mul i2 hcb
        omega
      · rw [htp, top_ref b z b3.2.2.1]
        refine kk p e R s m args below meth c QQ X E H1 locs lsR (cells + 1) (slots + i.toNatClampNeg) ?_ hS1 ⟨?_, ?_, Bd_hN L xs hR3 b3⟩ hL
        · rw [wl_push AC b z (h := h) (h' := hN h (100 + t) i.toNatClampNeg i.toNatClampNeg) b3.2.2.1 rfl (fun a ha => cE_hN AC b z (by omega)), cE_arr AC b z (t := t) (by rw [kd_hN, if_pos rfl]), ← htp, ln_hN, if_pos rfl]
          exact hP1
        · rw [nx_hN]; omega
        · rw [sc_hN]; omega
    · exact kk.elim
  · exact kk.elim
theorem sn_anewarray {t idx : Nat} {C : String} (hd : decode (mC j) pc = .ok (.anewarray idx, 3)) (ht : t < nA) (hk : kA t = .object C) (he : kE t = 1) (w1 : Cond.classLink (mO j) idx C ∈ TBg) (w2 : FieldType.object C ∈ kAO) : Snd l D AC b z L xs G j pc (oNewA cM sM t (pc + 3)) := by
  intro ls st h Q kk p e R s m args below meth c QQ X E H locs lsR cells slots hP hS hB hL
  unfold oNewA at kk
  split at kk
  · split at kk
    · rename_i i r hR
      obtain ⟨hR, hR3⟩ := and2 hR
      obtain ⟨hR1, hR2⟩ := and2 hR
      obtain ⟨r1, r2⟩ := okR_spec hR3
      have i1 : 0 ≤ i := of_decide_eq_true hR1
      have i2 : i.toNatClampNeg ≤ 1000000 := of_decide_eq_true hR2
      have hz : z ≤ s.heap.size := X.2.2.2.2.2.2.2.2.2.2.1
      obtain ⟨-, -, -, g1, g2, -⟩ := X.2.2.2.2.2.2.2.2.2.2
      refine w_facts hz fun f1 f2 f3 => ?_
      have htp := top_size D AC b z L xs hz hP hS hB f2
      obtain ⟨b1, b2, b3⟩ := hB
      have hra := arr_name D X.2.2.2.2.2.2.2.2.2.1.1 ht
      rw [hk] at hra
      obtain ⟨kA9, comp, q1, q2, q3, hfc⟩ := hra
      have hov : (Cond.arrayOver (.object C)).before args s = true := X.2.2.2.2.2.2.2.2.2.1.2.2.2.2.2.2.2.2.1 _ w2
      refine ms_newq (D := D) (cl := kN) X.1 X.2.1 X.2.2.2.2.1 (X.2.2.2.2.2.1 _ w1) hov hfc hP hS (Int32.not_lt.mpr i1) rfl (by omega) (by omega) (by omega) hd (fun H1 hP1 hS1 => ?_)
      rw [htp, top_ref b z b3.2.2.1]
      refine kk p e R s m args below meth c QQ X E H1 locs lsR (cells + 1) (slots + i.toNatClampNeg) ?_ hS1 ⟨?_, ?_, Bd_hN L xs hR3 b3⟩ hL
      · rw [wl_push AC b z (h := h) (h' := hN h (100 + t) i.toNatClampNeg i.toNatClampNeg) b3.2.2.1 rfl (fun a ha => cE_hN AC b z (by omega)), cE_arr AC b z (t := t) (by rw [kd_hN, if_pos rfl]), ← htp, ln_hN, if_pos rfl, aV_ref b z he]
        have e1 : (fun k => (gR (hN h (100 + t) i.toNatClampNeg i.toNatClampNeg) (nx h) k).map (adr b z)) = fun _ => none := by
          funext k
          rw [gR_hN, if_pos rfl]
          rfl
        rw [e1]
        exact hP1
      · rw [nx_hN]; omega
      · rw [sc_hN]; omega
    · exact kk.elim
  · exact kk.elim
end MAKES
end
section
/-! ends, throws, calls, rows of rows -/
section ENDS
variable (l : Launch) (D : va_G) (AC : Nat → ClassId) (b z L : Nat) (xs : Nat → Int32) (G : Pg) {j pc : Nat}
theorem sn_ret (hd : decode (mC j) pc = .ok (.return_, 1)) (hr : mR j = none) : Snd l D AC b z L xs G j pc oRet := by
  intro ls st h Q kk p e R s m args below meth c QQ X E H locs lsR cells slots hP hS hB hL
  unfold oRet at kk
  split at kk
  · exact E.1 none h H locs lsR cells slots pc kk hP hS hB ⟨hr, hd⟩
  · exact kk.elim
theorem sn_retI (hd : decode (mC j) pc = .ok (.ireturn, 1)) (hr : mR j = some .int) : Snd l D AC b z L xs G j pc oRetI := by
  intro ls st h Q kk p e R s m args below meth c QQ X E H locs lsR cells slots hP hS hB hL
  unfold oRetI at kk
  split at kk
  · rename_i x
    exact E.1 (some (.inl x)) h H locs lsR cells slots pc kk hP hS hB ⟨⟨_, hr, rfl⟩, hd⟩
  · exact kk.elim
theorem sn_retZ (hd : decode (mC j) pc = .ok (.ireturn, 1)) (hr : mR j = some .boolean) : Snd l D AC b z L xs G j pc oRetZ := by
  intro ls st h Q kk p e R s m args below meth c QQ X E H locs lsR cells slots hP hS hB hL
  unfold oRetZ at kk
  split at kk
  · rename_i x
    split at kk
    · rename_i hx
      simp only [Bool.or_eq_true, decide_eq_true_eq] at hx
      exact E.1 (some (.inl x)) h H locs lsR cells slots pc kk hP hS hB ⟨⟨_, hr, by rcases hx with rfl | rfl <;> decide⟩, hd⟩
    · exact kk.elim
  · exact kk.elim
theorem sn_retA {rt : FieldType} (hd : decode (mC j) pc = .ok (.areturn, 1)) (hr : mR j = some rt) (ht : (∃ n, rt = .object n) ∨ ∃ t, rt = .array t) : Snd l D AC b z L xs G j pc oRetA := by
  intro ls st h Q kk p e R s m args below meth c QQ X E H locs lsR cells slots hP hS hB hL
  unfold oRetA at kk
  split at kk
  · rename_i x
    exact E.1 (some (.inr (.inl x))) h H locs lsR cells slots pc kk hP hS hB ⟨⟨_, hr, ht⟩, hd⟩
  · exact kk.elim
theorem sn_retL (hd : decode (mC j) pc = .ok (.lreturn, 1)) (hr : mR j = some .long) : Snd l D AC b z L xs G j pc oRetL := by
  intro ls st h Q kk p e R s m args below meth c QQ X E H locs lsR cells slots hP hS hB hL
  unfold oRetL at kk
  split at kk
  · rename_i x
    exact E.1 (some (.inr (.inr (.inl x)))) h H locs lsR cells slots pc kk hP hS hB ⟨hr, hd⟩
  · exact kk.elim
theorem sn_retD (hd : decode (mC j) pc = .ok (.dreturn, 1)) (hr : mR j = some .double) : Snd l D AC b z L xs G j pc oRetD := by
  intro ls st h Q kk p e R s m args below meth c QQ X E H locs lsR cells slots hP hS hB hL
  unfold oRetD at kk
  split at kk
  · rename_i x
    exact E.1 (some (.inr (.inr (.inr x)))) h H locs lsR cells slots pc kk hP hS hB ⟨hr, hd⟩
  · exact kk.elim
theorem catS_sum (st : Sk) : ((st.map (toV b z)).map fun v => v.category).sum = catS st := by
  induction st with
  | nil => rfl
  | cons v r ih =>
    show (toV b z v).category + ((r.map (toV b z)).map fun v => v.category).sum = catV v + catS r
    rw [cat_toV, ih]
theorem sn_obj {idx : Nat} (hd : decode (mC j) pc = .ok (.invokespecial idx, 3)) (hf : 1 ≤ mF j) (hw : 20 ≤ mW j) (w1 : Cond.methodLink (mO j) idx Lib.objectInit ∈ TBg) (w2 : Cond.instanceMethod Lib.objectInit ∈ TBg) (w3 : Cond.code Lib.objectInit ⟨#[0xb1]⟩ 1 none ∈ TBg) : Snd l D AC b z L xs G j pc (oObj (pc + 3)) := by
  intro ls st h Q kk p e R s m args below meth c QQ X E H locs lsR cells slots hP hS hB hL
  unfold oObj at kk
  split at kk
  · split at kk
    · rename_i a r hc
      obtain ⟨g1, g2, -⟩ := X.2.2.2.2.2.2.2.2.2.2.2
      refine W.objInit X.1 X.2.1 X.2.2.2.2.1 (X.2.2.2.2.2.1 _ w1) (X.2.2.2.2.2.1 _ w2) (X.2.2.2.2.2.1 _ w3) rfl (by rw [X.2.2.2.1]; exact hL.1) (rest := r.map (toV b z)) rfl hd (Nat.le_trans hf g1) ?_ ?_
      · rw [catS_sum]
        show 2 * 0 + catS r + 12 ≤ R.locals
        omega
      · exact kk p e R s m args below meth c QQ X E H locs lsR cells slots hP hS hB hL
    · exact kk.elim
  · exact kk.elim
/-- throw new X("..") -/
theorem sn_throw {Ec ci ik is ic : Nat} {own nm text : String} {T0 : u_T} {nms : List String} (ho : mO j = own) (hEc : kEx[Ec]? = some nm) (hc : kN[ci]? = some (nm, T0, 0)) (h100 : ci < 100) (hf : 6 ≤ mF j) (hw : 82 ≤ mW j) (hnl : nms.length = 2)
    (hcls : Bundle.fit nm = true) (hnames : ∀ n ∈ nms, Bundle.fit n = true) (w1 : Cond.classLink own ik nm ∈ TBg) (w2 : Cond.initialized nm ∈ TBg) (hstr : (own, is, text) ∈ kStr)
    (hg : ∀ w ∈ (vx_atS own ic nm nms).filter goodWord, w ∈ TBg) (hcast : (nm, nm) ∈ kCast) (hng : ∀ w ∈ (vx_atS own ic nm nms).filter (fun w => !goodWord w), w = .castable nm nm ∨ ∃ x ∈ kDecl, w = .declares x) (hot : ∀ w ∈ vx_atS own ic nm nms, vx_ot w = true)
    (hmH : mH j = []) (W1 W2 : Nat) (d0 : decode (mC j) pc = .ok (.new ik, 3)) (d3 : decode (mC j) (pc + 3) = .ok (.dup, 1)) (dd : (decode (mC j) (pc + 4) = .ok (.ldc is, 2) ∧ decode (mC j) (pc + 6) = .ok (.invokespecial ic, 3) ∧ decode (mC j) (pc + 9) = .ok (.athrow, 1)) ∨ (decode (mC j) (pc + 4) = .ok (.ldc_w is, 3) ∧ decode (mC j) (pc + 7) = .ok (.invokespecial ic, 3) ∧ decode (mC j) (pc + 10) = .ok (.athrow, 1))) :
    Snd l D AC b z L xs G j pc (oThr cM sM Ec ci) := by
  subst ho
  intro ls st h Q kk p e R s m args below meth c QQ X E H locs lsR cells slots hP hS hB hL
  unfold oThr at kk
  split at kk
  · split at kk
    · rename_i hR
      obtain ⟨r1, r2⟩ := okR_spec hR
      have hz : z ≤ s.heap.size := X.2.2.2.2.2.2.2.2.2.2.1
      obtain ⟨g1, g2, g3, g4, g5⟩ := X.2.2.2.2.2.2.2.2.2.2.2
      obtain ⟨hK, hU, hN9, -, hCast, hDecl, hStr, -⟩ := id X.2.2.2.2.2.2.2.2.2.1
      obtain ⟨sa, hsa⟩ := hStr _ hstr
      refine w_facts hz fun f1 f2 f3 => ?_
      have htp := top_size D AC b z L xs hz hP hS hB f2
      obtain ⟨b1, b2, b3⟩ := hB
      have hat : ∀ w ∈ vx_atS (mO j) ic nm nms, w.before args s = true := by
        intro w hw9
        by_cases g : goodWord w = true
        · exact X.2.2.2.2.2.1 w (hg w (List.mem_filter.mpr ⟨hw9, g⟩))
        · rcases hng w (List.mem_filter.mpr ⟨hw9, by simp [g]⟩) with rfl | ⟨x, hx, rfl⟩
          · exact va_Nw.use rfl (hCast _ hcast)
          · exact va_Nw.use rfl (hDecl _ hx)
      have hgood : ∀ w ∈ Cond.classLink (mO j) ik nm :: Cond.initialized nm :: vx_atS (mO j) ic nm nms, vx_ot w = true := by
        intro w hw9
        rcases List.mem_cons.mp hw9 with rfl | hw9
        · unfold vx_ot; rw [tb_good w1]; exact Bool.or_true _
        · rcases List.mem_cons.mp hw9 with rfl | hw9
          · unfold vx_ot; rw [tb_good w2]; exact Bool.or_true _
          · exact hot w hw9
      have last : ∀ (H1 : Heap) (pc9 : Nat), decode (mC j) pc9 = .ok (.athrow, 1) → va_P D kN (wl AC b z h ++ [(H.size, .inr (ci, []))]) H1 → va_S (Az z) s.heap H1 locs → W p l e R s m args below meth c H1 locs (cells + 1) (slots + 6) QQ (F0 m pc9 lsR [.ref H.size]) := by
        intro H1 pc9 d9 hP1 hS1
        have hP2 : va_P D kN (wl AC b z (hN h ci 0 6)) H1 := by
          rw [wl_push AC b z (h := h) (h' := hN h ci 0 6) b3.2.2.1 rfl (fun a ha => cE_hN AC b z (by omega)), cE_obj AC b z hc (by rw [kd_hN, if_pos rfl]) h100, ← htp]
          exact hP1
        have hlen : (wl AC b z h).length = nx h - 1 := by unfold wl; rw [List.length_map, List.length_range]
        have hat9 := hP1 (nx h - 1) (H.size, .inr (ci, [])) (by rw [List.getElem?_append_right (by omega), hlen, Nat.sub_self]; rfl)
        obtain ⟨r9, hr9, ce, hce, hcl, hcv, -⟩ := hat9
        have hcn : s.vm.findClass nm = some ce.cls := by
          have q := (hK.1 ci _ hc).2.1
          rw [hcl]
          exact q
        refine vx_athrow X.1 X.2.1 d9 ?_
        refine E.2 Ec nm (hN h ci 0 6) H1 locs lsR (cells + 1) (slots + 6) pc9 [] H.size ce kk hEc hP2 hS1 ⟨?_, ?_, Bd_hN L xs hR b3⟩ hce hcv hcn (by rw [hmH]; intro x hx; cases hx)
        · rw [nx_hN]; omega
        · rw [sc_hN]; omega
      have hA : ∀ q, s.heap.size ≤ q → Az z q := fun q hq => Nat.le_trans hz hq
      have hz9 : lsR.size = c.maxLocals := by rw [X.2.2.2.1]; exact hL.1
      rcases dd with ⟨d4, d6, d9⟩ | ⟨d4, d6, d9⟩
      · exact ms_makeS X.1 X.2.1 g5 X.2.2.2.2.1 hcls hnames (X.2.2.2.2.2.1 _ w1) (X.2.2.2.2.2.1 _ w2) hsa hat hgood hU hN9 hS hz9 d0 d3 d4 d6 hK hP (wl_D AC b z h) hA hc (by omega) (by rw [hnl]; show 0 + _ ≤ _; omega) (by omega) (by omega) (fun H1 hP1 hS1 => last H1 _ d9 hP1 hS1)
      · exact ms_makeW X.1 X.2.1 g5 X.2.2.2.2.1 hcls hnames (X.2.2.2.2.2.1 _ w1) (X.2.2.2.2.2.1 _ w2) hsa hat hgood hU hN9 hS hz9 d0 d3 d4 d6 hK hP (wl_D AC b z h) hA hc (by omega) (by rw [hnl]; show 0 + _ ≤ _; omega) (by omega) (by omega) (fun H1 hP1 hS1 => last H1 _ d9 hP1 hS1)
    · exact kk.elim
  · exact kk.elim
end ENDS
section CALLS
variable (l : Launch) (D : va_G) (AC : Nat → ClassId) (b z L : Nat) (xs : Nat → Int32) (G : Pg) {j pc : Nat}
/-- where an exception of a call at pc goes: to a handler that stores it and goes on, or out -/
def HS : Prop := ∀ (E : Nat) (nm : String), kEx[E]? = some nm → match G.2.2 j pc E with
  | none => ∀ x ∈ tableOf (mH j), covers x pc = false
  | some (npc, k) => ∃ (pre : List ExceptionTableEntry) (x : ExceptionTableEntry) (suf : List ExceptionTableEntry) (cnm : String), tableOf (mH j) = pre ++ x :: suf ∧ (∀ y ∈ pre, covers y pc = false ∨ (y.catchType ≠ 0 ∧ ∃ nm9 : String, Cond.classLink (mO j) y.catchType nm9 ∈ TBg ∧ (nm, nm9) ∈ kNc)) ∧ covers x pc = true ∧ x.catchType ≠ 0 ∧
      Cond.classLink (mO j) x.catchType cnm ∈ TBg ∧ (nm, cnm) ∈ kCast ∧ k < mL j ∧ ((∃ k4 : Fin 4, (k4 : Nat) = k ∧ decode (mC j) x.handlerPc = .ok (.astore_n k4, 1) ∧ npc = x.handlerPc + 1) ∨ (decode (mC j) x.handlerPc = .ok (.astore k, 2) ∧ npc = x.handlerPc + 2))
/-- what is asked of M behind a call -/
def Q2 (X : Jd) (pc' : Nat) (ls : Lo) (st : Sk) (Q : MRes → Hp → Prop) : MRes → Hp → Prop := fun r h2 => match r with
  | .inl v => X j pc' ls (v.toList ++ st) h2 Q
  | .inr E => match G.2.2 j pc E with
    | some (npc, k) => X j npc (lSet1 ls k none) [] h2 Q
    | none => Q (.inr E) h2
theorem call_go (hHS : HS G (j := j) (pc := pc)) {p : Program} {e : Env} {R : Room} {s : State} {m : MethodId} {args : Array Value} {below : List Frame} {meth : Method} {c : Code} {QQ : State → Prop} {Q : MRes → Hp → Prop} (X : Ctx l D AC b z L xs j p R s m args meth c) (E : Ends l D AC b z L xs j p e R s m args below meth c QQ Q)
    {H : Heap} {locs : List Loc} {lsR : Array Slot} {cells slots mc ms : Nat} {ls : Lo} {st : Sk} {st0 : List Value} {a : Array Value} (hS : va_S (Az z) s.heap H locs) (hL : LR b z ls lsR (mL j))
    (hrun : vx_Run p l e R s m args below meth c H locs cells slots mc ms (F0 m pc lsR st0) (st.map (toV b z)) (QcM D AC b z L xs (Q2 G (j := j) (pc := pc) (RX l D AC b z L xs) (pc + 3) ls st Q) a) (XcM D AC b z L xs (Q2 G (j := j) (pc := pc) (RX l D AC b z L xs) (pc + 3) ls st Q)) (Az z)) :
    W p l e R s m args below meth c H locs cells slots QQ (F0 m pc lsR st0) := by
  have hz : z ≤ s.heap.size := X.2.2.2.2.2.2.2.2.2.2.1
  intro T hT Y
  rcases hrun T hT Y with ⟨v, st₀, t, T', Lc, h0, X', hLc, e1, e2, hq, go⟩ | ⟨q, st₀, t, T', Lc, nm, ce, h0, X', hLc, e1, e2, hx, hce, hcv, hcl, go⟩
  · obtain ⟨v9, h2, hv, hQ, hP2, hF, hHB⟩ := hq
    cases hv
    have hS2 := (vx_keep h0 e1 hS (fun _ _ h => h) (fun _ h => h) hLc hF).2.2
    have Z := st_tight X'
    have hsz := (st_facts X' hz).1
    have hsp := st_split X' hz
    rw [← e1] at hP2 hHB
    obtain ⟨w1, w2, w3⟩ := hHB
    have hQ9 : RX l D AC b z L xs j (pc + 3) ls (v9.toList ++ st) h2 Q := hQ
    obtain ⟨t2, a1, b1⟩ := hQ9 p e R s m args below meth c QQ X E T'.heap (locs ++ Lc) lsR _ _ hP2 hS2 ⟨by omega, by omega, w3⟩ hL T' rfl Z
    refine ⟨t2, go t2 ?_, b1⟩
    have ef : ({ F0 m pc lsR st0 with pc := (F0 m pc lsR st0).pc + 3, stack := (v9.map (toV b z)).toList ++ st.map (toV b z) } : JFrame) = F0 m (pc + 3) lsR ((v9.toList ++ st).map (toV b z)) := by
      cases v9 <;> rfl
    rw [ef]
    exact a1
  · obtain ⟨Ec, h2, hE, hQ, hP2, hF, hHB⟩ := hx
    have hS2 := (vx_keep h0 e1 hS (fun _ _ h => h) (fun _ h => h) hLc hF).2.2
    have Z := st_tight X'
    have hsz := (st_facts X' hz).1
    have hsp := st_split X' hz
    rw [← e1] at hP2 hHB hce
    obtain ⟨w1, w2, w3⟩ := hHB
    have hB9 : Bg z L xs s h2 (T'.heap.size - s.heap.size) (Sz s.heap.size T'.heap) := ⟨by omega, by omega, w3⟩
    have hh := hHS Ec nm hE
    have hw : vx_W p l e R s m args below meth c T'.heap (locs ++ Lc) (T'.heap.size - s.heap.size) (Sz s.heap.size T'.heap) QQ (F0 m pc lsR (st.map (toV b z))) q := by
      unfold Q2 at hQ
      dsimp only at hQ
      cases hg : G.2.2 j pc Ec with
      | none =>
        rw [hg] at hQ hh
        exact E.2 Ec nm h2 T'.heap (locs ++ Lc) lsR _ _ pc _ q ce hQ hE hP2 hS2 hB9 hce hcv hcl hh
      | some o =>
        obtain ⟨npc, k⟩ := o
        rw [hg] at hQ hh
        obtain ⟨pre, x, suf, cnm, q1, q2, q3, q4, q5, q6, q7, q8⟩ := hh
        obtain ⟨hK, -, -, -, hCast, -, -, hNc, -⟩ := id X.2.2.2.2.2.2.2.2.2.1
        have htab : c.exceptionTable.toList = tableOf (mH j) := X.2.2.2.2.2.2.2.2.1
        refine vx_catch X.2.2.2.2.1 pre x suf (htab.trans q1) (fun y hy => ?_) q3 q4 (X.2.2.2.2.2.1 _ q5) (va_Nw.use rfl (hCast _ q6)) hce hcv hcl ?_
        · rcases q2 y hy with r1 | ⟨r1, nm9, r2, r3⟩
          · exact Or.inl r1
          · exact Or.inr ⟨r1, nm9, X.2.2.2.2.2.1 _ r2, hNc _ r3⟩
        · have hQ9 : RX l D AC b z L xs j npc (lSet1 ls k none) [] h2 Q := hQ
          rcases q8 with ⟨k4, r1, r2, rfl⟩ | ⟨r2, rfl⟩
          · exact lv_astore_n X.1 X.2.1 r2 r1 (LR_has b z hL) q7 rfl (fun ls9 hl9 => hQ9 p e R s m args below meth c QQ X E T'.heap (locs ++ Lc) ls9 _ _ hP2 hS2 hB9 (LR_set1 b z (fun w hw => by cases hw) hl9))
          · exact lv_astore X.1 X.2.1 r2 (LR_has b z hL) q7 rfl (fun ls9 hl9 => hQ9 p e R s m args below meth c QQ X E T'.heap (locs ++ Lc) ls9 _ _ hP2 hS2 hB9 (LR_set1 b z (fun w hw => by cases hw) hl9))
    obtain ⟨t2, a1, b1⟩ := hw T' rfl Z
    exact ⟨t2, go.trans a1, b1⟩
theorem popA_spec : ∀ (n : Nat) (acc : List MV) (st : Sk) (as : List MV) (rest : Sk), popA n acc st = some (as, rest) → ∃ t : List MV, st = t ++ rest ∧ t.length = n ∧ as = t.reverse ++ acc
  | 0, acc, st, as, rest, h => by
    cases Option.some.inj h
    exact ⟨[], rfl, rfl, rfl⟩
  | n + 1, acc, [], as, rest, h => by cases h
  | n + 1, acc, v :: st, as, rest, h => by
    obtain ⟨t, h1, h2, h3⟩ := popA_spec n (v :: acc) st as rest h
    refine ⟨v :: t, by rw [h1]; rfl, by rw [List.length_cons, h2], ?_⟩
    rw [h3, List.reverse_cons, List.append_assoc]
    rfl
/-- what a call finds here: the callee's start, its words, the room -/
theorem call_pre {p : Program} {R : Room} {s : State} {m : MethodId} {args : Array Value} {meth : Method} {c : Code} (X : Ctx l D AC b z L xs j p R s m args meth c) {H : Heap} {locs : List Loc} (hS : va_S (Az z) s.heap H locs) (as : List MV) : FrameBlind (PcM D AC b z L xs as H) ∧ ∀ U : State, U.heap = H → s.WarmedH U.vm → PcM D AC b z L xs as H (as.map (toV b z)).toArray U := by
  have hz : z ≤ s.heap.size := X.2.2.2.2.2.2.2.2.2.2.1
  refine ⟨PcM_blind D AC b z L xs (Nat.le_trans hz hS.1), fun U hU hW => ⟨rfl, hU, ?_⟩⟩
  exact Env0.warm D AC b z L xs hW hz (fun q h1 h2 => by rw [hU]; exact hS.2.1 q h1 h2) X.2.2.2.2.2.2.2.2.2.1
theorem mWs_good {j2 : Nat} (hw : mCw j2 ∈ TBg) : ∀ w ∈ mWs j2, w ∈ TBg := by
  intro w h
  rcases List.mem_cons.mp h with rfl | h
  · exact hw
  · exact h
theorem mWs_pay {j2 : Nat} (hw : mCw j2 ∈ TBg) {s : State} {args : Array Value} (hts : ∀ w ∈ TBg, w.before args s = true) : ∀ w ∈ mWs j2, ∀ (a' : Array Value) (U : State), s.WarmedH U.vm → w.before a' U = true :=
  fun w h a' U hW => word_at hW (good_of_word (tb_good (mWs_good hw w h))) (hts w (mWs_good hw w h))
/-- what the tables say of a callee with no handlers -/
def CalOK (j j2 n : Nat) : Prop := MOK j2 ∧ mF j2 + 1 ≤ mF j ∧ 8 + (mL j2 + 11) + mW j2 ≤ mW j ∧ Cond.initialized (mY j2).cls ∈ TBg ∧ ((mY j2).cls ≠ "java/lang/invoke/MethodHandle" ∧ (mY j2).cls ≠ "java/lang/invoke/VarHandle") ∧ (parseMethodDescriptor (mY j2).desc).map (fun d => d.parameters.length) = some n
theorem par_len {y : MethodName} {n : Nat} (h : (parseMethodDescriptor y.desc).map (fun d => d.parameters.length) = some n) : ∀ sig, parseMethodDescriptor y.desc = some sig → n = sig.parameters.length := by
  intro sig hs
  rw [hs] at h
  exact (Option.some.inj h).symm
theorem HB_of {s : State} {h : Hp} {H : Heap} {cells slots : Nat} (hB : Bg z L xs s h cells slots) (f2 : H.size ≤ s.heap.size + cells) (f3 : Sz z H ≤ Sz z s.heap + slots) : HB z L xs H h := by
  obtain ⟨b1, b2, b3⟩ := hB
  exact ⟨by omega, by omega, b3⟩
theorem mCw_nil {j2 : Nat} (h : mH j2 = []) : mCw j2 = Cond.code (mY j2) (mC j2) (mL j2) (mR j2) := by unfold mCw; rw [h]
theorem mCw_cons {j2 : Nat} (h : mH j2 ≠ []) : mCw j2 = Cond.codeWith (mY j2) (mC j2) (mL j2) (mR j2) (mH j2) := by
  unfold mCw
  cases hm : mH j2 with
  | nil => exact absurd hm h
  | cons x r => rfl
end CALLS
end
section
/-! the calls' handlers are sound -/
section TIGHT
variable {p : Program} {l : Launch} {e : Env} {R : Room} {s : State} {m : MethodId} {args : Array Value} {below : List Frame} {meth : Method} {c : Code} {H : Heap} {locs : List Loc} {cells slots : Nat} {Q : State → Prop}
theorem w_tight {g : JFrame} {z : Nat} (hz : z ≤ s.heap.size) (k : s.heap.size ≤ H.size → H.size ≤ s.heap.size + cells → Sz z H ≤ Sz z s.heap + slots → Sz z H = Sz z s.heap + Sz s.heap.size H → W p l e R s m args below meth c H locs (H.size - s.heap.size) (Sz s.heap.size H) Q g) : W p l e R s m args below meth c H locs cells slots Q g := by
  intro T hT X
  obtain ⟨h1, h2, h3⟩ := st_facts X hz
  have h4 := st_split X hz
  subst hT
  exact k h1 h2 h3 h4 T rfl (st_tight X)
end TIGHT
section CALLOPS
variable (l : Launch) (D : va_G) (AC : Nat → ClassId) (b z L : Nat) (xs : Nat → Int32) (G : Pg) {j pc : Nat}
theorem stk_eq {st t rest : List MV} {as : List MV} (h1 : st = t ++ rest) (h3 : as = t.reverse ++ []) : st.map (toV b z) = (as.map (toV b z)).reverse ++ rest.map (toV b z) := by
  rw [h1, h3, List.append_nil, List.map_append, ← List.map_reverse, List.reverse_reverse]
theorem as_len {t : List MV} {as : List MV} {n : Nat} (h2 : t.length = n) (h3 : as = t.reverse ++ []) : (as.map (toV b z)).length = n := by
  rw [h3, List.append_nil, List.length_map, List.length_reverse, h2]
theorem call_room {R : Room} {pc : Nat} {m : MethodId} {lsR : Array Slot} {st : List Value} {rest : Sk} (h : catS rest ≤ 8) : 2 * (F0 m pc lsR st).monitorRoom + ((rest.map (toV b z)).map fun v => v.category).sum ≤ 8 := by
  rw [catS_sum]
  show 2 * 0 + catS rest ≤ 8
  omega
theorem sn_callV {ci j2 na idx N : Nat} {C : String} {T : u_T} (hd : decode (mC j) pc = .ok (.invokevirtual idx, 3)) (hG : G.2.1 j2 = mL j2) (hHS : HS G (j := j) (pc := pc)) (ok : CalOK j j2 na) (hh : mH j2 = []) (hc : kN[ci]? = some (C, T, N)) (h100 : ci < 100) (hC : (mY j2).cls = C)
    (w1 : Cond.methodLink (mO j) idx (mY j2) ∈ TBg) (w2 : Cond.instanceMethod (mY j2) ∈ TBg) (w3 : Cond.selects C (mY j2) (mY j2) ∈ TBg) : Snd l D AC b z L xs G j pc (oCallV ci j2 na (mL j2) (pc + 3)) := by
  intro ls st h Q kk p e R s m args below meth c QQ X E H locs lsR cells slots hP hS hB hL
  unfold oCallV at kk
  split at kk
  · rename_i as a rest hpop
    split at kk
    · rename_i hK
      obtain ⟨hK, hK3⟩ := and2 hK
      obtain ⟨hK, hK2⟩ := and2 hK
      obtain ⟨h2, h3⟩ := isK_spec hK
      obtain ⟨i, rfl⟩ := id_pos L xs hB.2.2 h3 h100
      have hcr : catS rest ≤ 8 := of_decide_eq_true hK2
      have hca : catS as < mL j2 := of_decide_eq_true hK3
      obtain ⟨t, p1, p2, p3⟩ := popA_spec na [] st as _ hpop
      have hz : z ≤ s.heap.size := X.2.2.2.2.2.2.2.2.2.2.1
      obtain ⟨g1, g2, g3, g4, g5⟩ := X.2.2.2.2.2.2.2.2.2.2.2
      obtain ⟨o1, o2, o3, o4, o5, o6⟩ := ok
      refine w_tight hz fun f1 f2 f3 f4 => ?_
      have hHB := HB_of z L xs hB f2 f3
      obtain ⟨y1, y2, y3, y4, -⟩ := id hHB
      have he := wl_get AC b z h2
      rw [cE_obj AC b z hc h3 h100] at he
      have kk9 : RX l D AC b z L xs j2 0 (entL (.inr (.inl (some (i + 1))) :: as) (mL j2)) [] h (Q2 G (j := j) (pc := pc) (RX l D AC b z L xs) (pc + 3) ls rest Q) := by rw [← hG]; exact kk
      have hcat : catS (.inr (.inl (some (i + 1))) :: as) ≤ mL j2 := by
        show catV _ + catS as ≤ mL j2
        show 1 + catS as ≤ mL j2
        omega
      have hM := met_of l D AC b z L xs o1 g5 hcat kk9 hP hHB (Nat.le_trans hz f1)
      obtain ⟨q1, q2⟩ := call_pre l D AC b z L xs X hS (.inr (.inl (some (i + 1))) :: as)
      have hrun := vx_runV (Ts := TBg) (own := mO j) (index := idx) (C := C) (b := z + i) (As := as.map (toV b z)) (rest := rest.map (toV b z)) (bytes := mC j2) (maxL := mL j2) (ret := mR j2) (n := na) (nL := mL j) (cells := H.size - s.heap.size) (slots := Sz s.heap.size H) (below := below) (meth := meth) (locs := locs) (e := e) (R := R) (H := H) (g := F0 m pc lsR (st.map (toV b z))) ⟨X.1, X.2.1, X.2.2.2.1, X.2.2.2.2.1, X.2.2.2.2.2.1⟩ hM
        ⟨⟨rfl, rfl, Nat.le_trans o2 g1, Nat.le_trans o3 g2, mWs_pay o1.2.2 X.2.2.2.2.2.1, by rw [← mCw_nil hh]; exact List.mem_cons_self, by rw [← mCw_nil hh]; exact X.2.2.2.2.2.1 _ o1.2.2, X.2.2.2.2.2.1 _ o4, o5, par_len o6, X.2.2.2.2.2.1 _ w1⟩, X.2.2.2.2.2.1 _ w2, X.2.2.2.2.2.1 _ w3⟩
        ⟨q1, va_recv (D := D) X.2.2.2.2.2.2.2.2.2.1.1 hP hc he, q2⟩ rfl (as_len b z p2 p3) hL.1 (stk_eq b z p1 p3) (call_room (R := R) b z hcr) hd ⟨by show _ + (z + cM - H.size) ≤ _; omega, by show _ + (sM - Sz z H) ≤ _; omega⟩
      exact call_go l D AC b z L xs G hHS X E hS hL hrun
    · exact kk.elim
  · exact kk.elim
theorem sn_callI {ci j2 na idx N : Nat} {C : String} {T : u_T} (hd : decode (mC j) pc = .ok (.invokespecial idx, 3)) (hG : G.2.1 j2 = mL j2) (hHS : HS G (j := j) (pc := pc)) (ok : CalOK j j2 na) (hh : mH j2 = []) (hc : kN[ci]? = some (C, T, N)) (h100 : ci < 100) (hr : mR j2 = none) (hi : (mY j2).name = "<init>")
    (w1 : Cond.methodLink (mO j) idx (mY j2) ∈ TBg) (w2 : Cond.instanceMethod (mY j2) ∈ TBg) : Snd l D AC b z L xs G j pc (oCallV ci j2 na (mL j2) (pc + 3)) := by
  intro ls st h Q kk p e R s m args below meth c QQ X E H locs lsR cells slots hP hS hB hL
  unfold oCallV at kk
  split at kk
  · rename_i as a rest hpop
    split at kk
    · rename_i hK
      obtain ⟨hK, hK3⟩ := and2 hK
      obtain ⟨hK, hK2⟩ := and2 hK
      obtain ⟨h2, h3⟩ := isK_spec hK
      obtain ⟨i, rfl⟩ := id_pos L xs hB.2.2 h3 h100
      have hcr : catS rest ≤ 8 := of_decide_eq_true hK2
      have hca : catS as < mL j2 := of_decide_eq_true hK3
      obtain ⟨t, p1, p2, p3⟩ := popA_spec na [] st as _ hpop
      have hz : z ≤ s.heap.size := X.2.2.2.2.2.2.2.2.2.2.1
      obtain ⟨g1, g2, g3, g4, g5⟩ := X.2.2.2.2.2.2.2.2.2.2.2
      obtain ⟨o1, o2, o3, o4, o5, o6⟩ := ok
      refine w_tight hz fun f1 f2 f3 f4 => ?_
      have hHB := HB_of z L xs hB f2 f3
      obtain ⟨y1, y2, y3, y4, -⟩ := id hHB
      have kk9 : RX l D AC b z L xs j2 0 (entL (.inr (.inl (some (i + 1))) :: as) (mL j2)) [] h (Q2 G (j := j) (pc := pc) (RX l D AC b z L xs) (pc + 3) ls rest Q) := by rw [← hG]; exact kk
      have hcat : catS (.inr (.inl (some (i + 1))) :: as) ≤ mL j2 := by
        show catV _ + catS as ≤ mL j2
        show 1 + catS as ≤ mL j2
        omega
      have hM := met_of l D AC b z L xs o1 g5 hcat kk9 hP hHB (Nat.le_trans hz f1)
      obtain ⟨q1, q2⟩ := call_pre l D AC b z L xs X hS (.inr (.inl (some (i + 1))) :: as)
      have hcw : mCw j2 = Cond.code (mY j2) (mC j2) (mL j2) none := by rw [mCw_nil hh, hr]
      have hrun := vx_runI (Ts := TBg) (own := mO j) (index := idx) (b := z + i) (As := as.map (toV b z)) (rest := rest.map (toV b z)) (bytes := mC j2) (maxL := mL j2) (n := na) (nL := mL j) (cells := H.size - s.heap.size) (slots := Sz s.heap.size H) (below := below) (meth := meth) (locs := locs) (e := e) (R := R) (H := H) (g := F0 m pc lsR (st.map (toV b z))) ⟨X.1, X.2.1, X.2.2.2.1, X.2.2.2.2.1, X.2.2.2.2.2.1⟩ hM
        ⟨⟨rfl, rfl, Nat.le_trans o2 g1, Nat.le_trans o3 g2, mWs_pay o1.2.2 X.2.2.2.2.2.1, by rw [← hcw]; exact List.mem_cons_self, by rw [← hcw]; exact X.2.2.2.2.2.1 _ o1.2.2, X.2.2.2.2.2.1 _ o4, o5, par_len o6, X.2.2.2.2.2.1 _ w1⟩, hi, X.2.2.2.2.2.1 _ w2⟩
        ⟨q1, q2⟩ rfl (as_len b z p2 p3) hL.1 (stk_eq b z p1 p3) (call_room (R := R) b z hcr) hd ⟨by show _ + (z + cM - H.size) ≤ _; omega, by show _ + (sM - Sz z H) ≤ _; omega⟩
      exact call_go l D AC b z L xs G hHS X E hS hL hrun
    · exact kk.elim
  · exact kk.elim
theorem sn_callIN {ci j2 na idx N : Nat} {C host : String} {T : u_T} (hd : decode (mC j) pc = .ok (.invokespecial idx, 3)) (hG : G.2.1 j2 = mL j2) (hHS : HS G (j := j) (pc := pc)) (ok : CalOK j j2 na) (hh : mH j2 = []) (hc : kN[ci]? = some (C, T, N)) (h100 : ci < 100) (hr : mR j2 = none) (hi : (mY j2).name = "<init>")
    (w1 : (mO j, idx, mY j2, host) ∈ kNest) (w2 : Cond.instanceMethod (mY j2) ∈ TBg) : Snd l D AC b z L xs G j pc (oCallV ci j2 na (mL j2) (pc + 3)) := by
  intro ls st h Q kk p e R s m args below meth c QQ X E H locs lsR cells slots hP hS hB hL
  unfold oCallV at kk
  split at kk
  · rename_i as a rest hpop
    split at kk
    · rename_i hK
      obtain ⟨hK, hK3⟩ := and2 hK
      obtain ⟨hK, hK2⟩ := and2 hK
      obtain ⟨h2, h3⟩ := isK_spec hK
      obtain ⟨i, rfl⟩ := id_pos L xs hB.2.2 h3 h100
      have hcr : catS rest ≤ 8 := of_decide_eq_true hK2
      have hca : catS as < mL j2 := of_decide_eq_true hK3
      obtain ⟨t, p1, p2, p3⟩ := popA_spec na [] st as _ hpop
      have hz : z ≤ s.heap.size := X.2.2.2.2.2.2.2.2.2.2.1
      obtain ⟨g1, g2, g3, g4, g5⟩ := X.2.2.2.2.2.2.2.2.2.2.2
      obtain ⟨o1, o2, o3, o4, o5, o6⟩ := ok
      refine w_tight hz fun f1 f2 f3 f4 => ?_
      have hHB := HB_of z L xs hB f2 f3
      obtain ⟨y1, y2, y3, y4, -⟩ := id hHB
      have kk9 : RX l D AC b z L xs j2 0 (entL (.inr (.inl (some (i + 1))) :: as) (mL j2)) [] h (Q2 G (j := j) (pc := pc) (RX l D AC b z L xs) (pc + 3) ls rest Q) := by rw [← hG]; exact kk
      have hcat : catS (.inr (.inl (some (i + 1))) :: as) ≤ mL j2 := by
        show catV _ + catS as ≤ mL j2
        show 1 + catS as ≤ mL j2
        omega
      have hM := met_of l D AC b z L xs o1 g5 hcat kk9 hP hHB (Nat.le_trans hz f1)
      obtain ⟨q1, q2⟩ := call_pre l D AC b z L xs X hS (.inr (.inl (some (i + 1))) :: as)
      have hcw : mCw j2 = Cond.code (mY j2) (mC j2) (mL j2) none := by rw [mCw_nil hh, hr]
      have hne := X.2.2.2.2.2.2.2.2.2.1.2.2.2.1 _ w1
      have hrun := vx_runIN (Ts := TBg) (own := mO j) (index := idx) (host := host) (b := z + i) (As := as.map (toV b z)) (rest := rest.map (toV b z)) (bytes := mC j2) (maxL := mL j2) (n := na) (nL := mL j) (cells := H.size - s.heap.size) (slots := Sz s.heap.size H) (below := below) (meth := meth) (locs := locs) (e := e) (R := R) (H := H) (g := F0 m pc lsR (st.map (toV b z))) ⟨X.1, X.2.1, X.2.2.2.1, X.2.2.2.2.1, X.2.2.2.2.2.1⟩ hM
        ⟨⟨⟨rfl, rfl, Nat.le_trans o2 g1, Nat.le_trans o3 g2, mWs_pay o1.2.2 X.2.2.2.2.2.1, by rw [← hcw]; exact List.mem_cons_self⟩, by rw [← hcw]; exact X.2.2.2.2.2.1 _ o1.2.2, X.2.2.2.2.2.1 _ o4, o5, par_len o6, va_Nw.use rfl hne⟩, hi, X.2.2.2.2.2.1 _ w2⟩
        ⟨q1, q2⟩ rfl (as_len b z p2 p3) hL.1 (stk_eq b z p1 p3) (call_room (R := R) b z hcr) hd ⟨by show _ + (z + cM - H.size) ≤ _; omega, by show _ + (sM - Sz z H) ≤ _; omega⟩
      exact call_go l D AC b z L xs G hHS X E hS hL hrun
    · exact kk.elim
  · exact kk.elim
theorem sn_callS {j2 na idx : Nat} (hd : decode (mC j) pc = .ok (.invokestatic idx, 3)) (hG : G.2.1 j2 = mL j2) (hHS : HS G (j := j) (pc := pc)) (ok : CalOK j j2 na) (hh : mH j2 = [])
    (w1 : Cond.methodLink (mO j) idx (mY j2) ∈ TBg) (w2 : Cond.static (mY j2) ∈ TBg) : Snd l D AC b z L xs G j pc (oCallS j2 na (mL j2) (pc + 3)) := by
  intro ls st h Q kk p e R s m args below meth c QQ X E H locs lsR cells slots hP hS hB hL
  unfold oCallS at kk
  split at kk
  · rename_i as rest hpop
    split at kk
    · rename_i hK
      obtain ⟨hK2, hK3⟩ := and2 hK
      have hcr : catS rest ≤ 8 := of_decide_eq_true hK2
      have hcat : catS as ≤ mL j2 := of_decide_eq_true hK3
      obtain ⟨t, p1, p2, p3⟩ := popA_spec na [] st as _ hpop
      have hz : z ≤ s.heap.size := X.2.2.2.2.2.2.2.2.2.2.1
      obtain ⟨g1, g2, g3, g4, g5⟩ := X.2.2.2.2.2.2.2.2.2.2.2
      obtain ⟨o1, o2, o3, o4, o5, o6⟩ := ok
      refine w_tight hz fun f1 f2 f3 f4 => ?_
      have hHB := HB_of z L xs hB f2 f3
      obtain ⟨y1, y2, y3, y4, -⟩ := id hHB
      have kk9 : RX l D AC b z L xs j2 0 (entL as (mL j2)) [] h (Q2 G (j := j) (pc := pc) (RX l D AC b z L xs) (pc + 3) ls rest Q) := by rw [← hG]; exact kk
      have hM := met_of l D AC b z L xs o1 g5 hcat kk9 hP hHB (Nat.le_trans hz f1)
      have hrun := vx_runS (Ts := TBg) (own := mO j) (index := idx) (As := as.map (toV b z)) (rest := rest.map (toV b z)) (bytes := mC j2) (maxL := mL j2) (ret := mR j2) (n := na) (nL := mL j) (cells := H.size - s.heap.size) (slots := Sz s.heap.size H) (below := below) (meth := meth) (locs := locs) (e := e) (R := R) (H := H) (g := F0 m pc lsR (st.map (toV b z))) ⟨X.1, X.2.1, X.2.2.2.1, X.2.2.2.2.1, X.2.2.2.2.2.1⟩ hM
        ⟨⟨rfl, rfl, Nat.le_trans o2 g1, Nat.le_trans o3 g2, mWs_pay o1.2.2 X.2.2.2.2.2.1, by rw [← mCw_nil hh]; exact List.mem_cons_self, by rw [← mCw_nil hh]; exact X.2.2.2.2.2.1 _ o1.2.2, X.2.2.2.2.2.1 _ o4, o5, par_len o6, X.2.2.2.2.2.1 _ w1⟩, X.2.2.2.2.2.1 _ w2⟩
        (call_pre l D AC b z L xs X hS as) rfl (as_len b z p2 p3) hL.1 (stk_eq b z p1 p3) (call_room (R := R) b z hcr) hd ⟨by show _ + (z + cM - H.size) ≤ _; omega, by show _ + (sM - Sz z H) ≤ _; omega⟩
      exact call_go l D AC b z L xs G hHS X E hS hL hrun
    · exact kk.elim
  · exact kk.elim
theorem sn_callSN {j2 na idx : Nat} {host : String} (hd : decode (mC j) pc = .ok (.invokestatic idx, 3)) (hG : G.2.1 j2 = mL j2) (hHS : HS G (j := j) (pc := pc)) (ok : CalOK j j2 na) (hh : mH j2 = [])
    (w1 : (mO j, idx, mY j2, host) ∈ kNest) (w2 : Cond.static (mY j2) ∈ TBg) : Snd l D AC b z L xs G j pc (oCallS j2 na (mL j2) (pc + 3)) := by
  intro ls st h Q kk p e R s m args below meth c QQ X E H locs lsR cells slots hP hS hB hL
  unfold oCallS at kk
  split at kk
  · rename_i as rest hpop
    split at kk
    · rename_i hK
      obtain ⟨hK2, hK3⟩ := and2 hK
      have hcr : catS rest ≤ 8 := of_decide_eq_true hK2
      have hcat : catS as ≤ mL j2 := of_decide_eq_true hK3
      obtain ⟨t, p1, p2, p3⟩ := popA_spec na [] st as _ hpop
      have hz : z ≤ s.heap.size := X.2.2.2.2.2.2.2.2.2.2.1
      obtain ⟨g1, g2, g3, g4, g5⟩ := X.2.2.2.2.2.2.2.2.2.2.2
      obtain ⟨o1, o2, o3, o4, o5, o6⟩ := ok
      refine w_tight hz fun f1 f2 f3 f4 => ?_
      have hHB := HB_of z L xs hB f2 f3
      obtain ⟨y1, y2, y3, y4, -⟩ := id hHB
      have kk9 : RX l D AC b z L xs j2 0 (entL as (mL j2)) [] h (Q2 G (j := j) (pc := pc) (RX l D AC b z L xs) (pc + 3) ls rest Q) := by rw [← hG]; exact kk
      have hM := met_of l D AC b z L xs o1 g5 hcat kk9 hP hHB (Nat.le_trans hz f1)
      have hne := X.2.2.2.2.2.2.2.2.2.1.2.2.2.1 _ w1
      have hrun := vx_runSN (Ts := TBg) (own := mO j) (index := idx) (host := host) (As := as.map (toV b z)) (rest := rest.map (toV b z)) (bytes := mC j2) (maxL := mL j2) (ret := mR j2) (n := na) (nL := mL j) (cells := H.size - s.heap.size) (slots := Sz s.heap.size H) (below := below) (meth := meth) (locs := locs) (e := e) (R := R) (H := H) (g := F0 m pc lsR (st.map (toV b z))) ⟨X.1, X.2.1, X.2.2.2.1, X.2.2.2.2.1, X.2.2.2.2.2.1⟩ hM
        ⟨⟨⟨rfl, rfl, Nat.le_trans o2 g1, Nat.le_trans o3 g2, mWs_pay o1.2.2 X.2.2.2.2.2.1, by rw [← mCw_nil hh]; exact List.mem_cons_self⟩, by rw [← mCw_nil hh]; exact X.2.2.2.2.2.1 _ o1.2.2, X.2.2.2.2.2.1 _ o4, o5, par_len o6, va_Nw.use rfl hne⟩, X.2.2.2.2.2.1 _ w2, trivial⟩
        (call_pre l D AC b z L xs X hS as) rfl (as_len b z p2 p3) hL.1 (stk_eq b z p1 p3) (call_room (R := R) b z hcr) hd ⟨by show _ + (z + cM - H.size) ≤ _; omega, by show _ + (sM - Sz z H) ≤ _; omega⟩
      exact call_go l D AC b z L xs G hHS X E hS hL hrun
    · exact kk.elim
  · exact kk.elim
theorem sn_callSX {j2 na idx : Nat} (hd : decode (mC j) pc = .ok (.invokestatic idx, 3)) (hG : G.2.1 j2 = mL j2) (hHS : HS G (j := j) (pc := pc)) (ok : CalOK j j2 na) (hh : mH j2 ≠ [])
    (w1 : Cond.methodLink (mO j) idx (mY j2) ∈ TBg) (w2 : Cond.static (mY j2) ∈ TBg) : Snd l D AC b z L xs G j pc (oCallS j2 na (mL j2) (pc + 3)) := by
  intro ls st h Q kk p e R s m args below meth c QQ X E H locs lsR cells slots hP hS hB hL
  unfold oCallS at kk
  split at kk
  · rename_i as rest hpop
    split at kk
    · rename_i hK
      obtain ⟨hK2, hK3⟩ := and2 hK
      have hcr : catS rest ≤ 8 := of_decide_eq_true hK2
      have hcat : catS as ≤ mL j2 := of_decide_eq_true hK3
      obtain ⟨t, p1, p2, p3⟩ := popA_spec na [] st as _ hpop
      have hz : z ≤ s.heap.size := X.2.2.2.2.2.2.2.2.2.2.1
      obtain ⟨g1, g2, g3, g4, g5⟩ := X.2.2.2.2.2.2.2.2.2.2.2
      obtain ⟨o1, o2, o3, o4, o5, o6⟩ := ok
      refine w_tight hz fun f1 f2 f3 f4 => ?_
      have hHB := HB_of z L xs hB f2 f3
      obtain ⟨y1, y2, y3, y4, -⟩ := id hHB
      have kk9 : RX l D AC b z L xs j2 0 (entL as (mL j2)) [] h (Q2 G (j := j) (pc := pc) (RX l D AC b z L xs) (pc + 3) ls rest Q) := by rw [← hG]; exact kk
      have hM := met_of l D AC b z L xs o1 g5 hcat kk9 hP hHB (Nat.le_trans hz f1)
      have hrun := vx_runSX (Ts := TBg) (own := mO j) (index := idx) (As := as.map (toV b z)) (rest := rest.map (toV b z)) (bytes := mC j2) (maxL := mL j2) (ret := mR j2) (hh := mH j2) (n := na) (nL := mL j) (cells := H.size - s.heap.size) (slots := Sz s.heap.size H) (below := below) (meth := meth) (locs := locs) (e := e) (R := R) (H := H) (g := F0 m pc lsR (st.map (toV b z))) ⟨X.1, X.2.1, X.2.2.2.1, X.2.2.2.2.1, X.2.2.2.2.2.1⟩ hM
        ⟨⟨rfl, rfl, Nat.le_trans o2 g1, Nat.le_trans o3 g2, mWs_pay o1.2.2 X.2.2.2.2.2.1, by rw [← mCw_cons hh]; exact List.mem_cons_self⟩, by rw [← mCw_cons hh]; exact X.2.2.2.2.2.1 _ o1.2.2, X.2.2.2.2.2.1 _ o4, o5, par_len o6, X.2.2.2.2.2.1 _ w1, X.2.2.2.2.2.1 _ w2⟩
        (call_pre l D AC b z L xs X hS as) rfl (as_len b z p2 p3) hL.1 (stk_eq b z p1 p3) (call_room (R := R) b z hcr) hd ⟨by show _ + (z + cM - H.size) ≤ _; omega, by show _ + (sM - Sz z H) ≤ _; omega⟩
      exact call_go l D AC b z L xs G hHS X E hS hL hrun
    · exact kk.elim
  · exact kk.elim
end CALLOPS
end
section
/-! new int[n][k] -/
theorem vr_outer (c : ClassId) (N h0 : Nat) : ∀ i : Nat, Jvm.Free.Multi.outerC c N h0 i = arrV c N (fun j => va_rf (if j < i then some (h0 + 1 + j) else none))
  | 0 => by
    show ({ cls := c, slots := Array.replicate N .null, vm := .none } : Cell) = _
    rw [arrV_new]
    refine congrArg (arrV c N) (funext fun j => ?_)
    simp [va_rf]
  | i + 1 => by
    show (Jvm.Free.Multi.outerC c N h0 i).setSlot i (.ref (h0 + 1 + i)) = _
    rw [vr_outer c N h0 i, arrV_store]
    refine congrArg (arrV c N) (funext fun j => ?_)
    by_cases e : j = i
    · subst e
      simp [updV, va_rf]
    · by_cases h : j < i
      · simp [updV, e, h, Nat.lt_succ_of_lt h]
      · simp [updV, e, h, show ¬ j < i + 1 by omega]
section MULTI
variable (l : Launch) (D : va_G) (AC : Nat → ClassId) (b z L : Nat) (xs : Nat → Int32) (G : Pg) {j pc : Nat}
theorem kd_hM (h : Hp) (t t2 N K a : Nat) : kd (hM h t t2 N K) a = if a = nx h then 100 + t else if nx h ≤ a ∧ a ≤ nx h + N then 100 + t2 else kd h a := rfl
theorem ln_hM (h : Hp) (t t2 N K a : Nat) : ln (hM h t t2 N K) a = if a = nx h then N else if nx h ≤ a ∧ a ≤ nx h + N then K else ln h a := rfl
theorem gI_hM (h : Hp) (t t2 N K a k : Nat) : gI (hM h t t2 N K) a k = if nx h ≤ a ∧ a ≤ nx h + N then 0 else gI h a k := rfl
theorem gL_hM (h : Hp) (t t2 N K a k : Nat) : gL (hM h t t2 N K) a k = if nx h ≤ a ∧ a ≤ nx h + N then 0 else gL h a k := rfl
theorem gD_hM (h : Hp) (t t2 N K a k : Nat) : gD (hM h t t2 N K) a k = if nx h ≤ a ∧ a ≤ nx h + N then 0 else gD h a k := rfl
theorem gR_hM (h : Hp) (t t2 N K a k : Nat) : gR (hM h t t2 N K) a k = if a = nx h then (if k < N then some (nx h + 1 + k) else none) else if nx h ≤ a ∧ a ≤ nx h + N then none else gR h a k := rfl
theorem nx_hM (h : Hp) (t t2 N K : Nat) : nx (hM h t t2 N K) = nx h + 1 + N := rfl
theorem sc_hM (h : Hp) (t t2 N K : Nat) : sc (hM h t t2 N K) = sc h + (N + N * K) := rfl
theorem cE_hM {h : Hp} {t t2 N K a : Nat} (ha : a < nx h) : cE AC b z (hM h t t2 N K) a = cE AC b z h a := by
  have n1 : ¬ a = nx h := by omega
  have n2 : ¬ (nx h ≤ a ∧ a ≤ nx h + N) := by omega
  refine cE_cong AC b z (by rw [kd_hM, if_neg n1, if_neg n2]) (by rw [ln_hM, if_neg n1, if_neg n2]) ?_ ?_ ?_ ?_
  · funext k; rw [gI_hM, if_neg n2]
  · funext k; rw [gR_hM, if_neg n1, if_neg n2]
  · funext k; rw [gL_hM, if_neg n2]
  · funext k; rw [gD_hM, if_neg n2]
theorem Bd_hM {h : Hp} {t t2 N K : Nat} (hr : nx h + (1 + N) ≤ cM + 1 ∧ sc h + (N + N * K) ≤ sM) (hb : Bd L xs h) : Bd L xs (hM h t t2 N K) := by
  obtain ⟨h1, h2, h3, h4, h5, h6⟩ := hb
  have n1 : ¬ (0 : Nat) = nx h := by omega
  have n2 : ¬ (nx h ≤ 0 ∧ 0 ≤ nx h + N) := by omega
  refine ⟨by rw [nx_hM]; omega, by rw [sc_hM]; exact hr.2, by rw [nx_hM]; omega, fun j hj => by rw [gI_hM, if_neg n2]; exact h4 j hj, by rw [ln_hM, if_neg n1, if_neg n2]; exact h5, by rw [kd_hM, if_neg n1, if_neg n2]; exact h6⟩
theorem sn_multi {t t2 idx : Nat} (hd : decode (mC j) pc = .ok (.multianewarray idx 2, 4)) (ht : t < nA) (hk : kA t = .array .int) (he : kE t = 1) (ht2 : t2 < nA) (hk2 : kA t2 = .int) (he2 : kE t2 = 0) (w1 : Cond.classLink (mO j) idx ("[" ++ (FieldType.array .int).toString) ∈ TBg) (w2 : Cond.arrayClass .int ∈ TBg) (w3 : FieldType.array .int ∈ kAO) : Snd l D AC b z L xs G j pc (oMul cM sM t t2 (pc + 4)) := by
  intro ls st h Q kk p e R s m args below meth c QQ X E H locs lsR cells slots hP hS hB hL
  unfold oMul at kk
  split at kk
  · split at kk
    · rename_i k i r hR
      obtain ⟨hR, hR4⟩ := and2 hR
      obtain ⟨hR, hR3⟩ := and2 hR
      obtain ⟨hR1, hR2⟩ := and2 hR
      obtain ⟨hR5, hR6⟩ := and2 hR3
      obtain ⟨r1, r2⟩ := okR_spec hR4
      have i1 : 0 ≤ i := of_decide_eq_true hR1
      have i2 : i.toNatClampNeg ≤ 1000 := of_decide_eq_true hR2
      have k1 : 0 ≤ k := of_decide_eq_true hR5
      have k2 : k.toNatClampNeg ≤ 1000 := of_decide_eq_true hR6
      have hz : z ≤ s.heap.size := X.2.2.2.2.2.2.2.2.2.2.1
      obtain ⟨-, -, -, g1, g2, -⟩ := X.2.2.2.2.2.2.2.2.2.2
      refine w_facts hz fun f1 f2 f3 => ?_
      have htp := top_size D AC b z L xs hz hP hS hB f2
      obtain ⟨b1, b2, b3⟩ := hB
      have hov : (Cond.arrayOver (.array .int)).before args s = true := X.2.2.2.2.2.2.2.2.2.1.2.2.2.2.2.2.2.2.1 _ w3
      have hra := arr_name D X.2.2.2.2.2.2.2.2.2.1.1 ht
      have hra2 := arr_name D X.2.2.2.2.2.2.2.2.2.1.1 ht2
      rw [hk] at hra
      rw [hk2] at hra2
      generalize hN : i.toNatClampNeg = N at *
      generalize hM9 : k.toNatClampNeg = K at *
      intro T hT Y
      obtain ⟨vm₁, cA, comp, -, fA, fC, -, -, X', step⟩ := Y.multianewarray2F X.1 X.2.2.2.2.1 (X.2.2.2.2.2.1 _ w1) hov (X.2.2.2.2.2.1 _ w2) (g := F0 m pc lsR (.int k :: .int i :: r.map (toV b z))) rfl (by rw [X.2.1]; exact hd) rfl (Int32.not_lt.mpr i1) (Int32.not_lt.mpr k1) (by rw [hN]; omega) (by rw [hM9]; show K * 4 ≤ _; omega) (by rw [hM9]; omega) rfl rfl (by rw [hN]; omega) (by rw [hN, hM9]; omega)
      rw [hN, hM9] at X' step
      have e1 : cA = AC t := Option.some.inj (fA.symm.trans hra)
      have e2 : comp = AC t2 := Option.some.inj (fC.symm.trans hra2)
      subst e1
      subst e2
      generalize hF : Jvm.Free.Multi.fill (T.setVm vm₁) (AC t) (AC t2) N K (defaultValue .int) N = F at X' step
      have hTh : (T.setVm vm₁).heap = H := hT
      obtain ⟨q1, q2, -, -⟩ := Jvm.Free.Multi.fill_facts (T.setVm vm₁) (AC t) (AC t2) N K (defaultValue .int) N
      rw [hF, hTh] at q1 q2
      have hold : ∀ x : Nat, x < H.size → F.heap[x]? = H[x]? := fun x hx => by
        have := Jvm.Free.Multi.fill_old (T.setVm vm₁) (AC t) (AC t2) N K (defaultValue .int) (a := x) (by rw [hTh]; exact hx) N
        rw [hF, hTh] at this
        exact this
      have hrow : ∀ y : Nat, y < N → F.heap[H.size + 1 + y]? = some (Jvm.Free.Multi.innerC (AC t2) K (defaultValue .int)) := fun y hy => by
        have := Jvm.Free.Multi.fill_inner (T.setVm vm₁) (AC t) (AC t2) N K (defaultValue .int) N y hy
        rw [hF, hTh] at this
        exact this
      have hP2 : va_P D kN (wl AC b z (hM h t t2 N K)) F.heap := by
        intro k9 q9 hq9
        have hk9 : k9 + 1 < nx h + 1 + N := by
          have := (List.getElem?_eq_some_iff.mp hq9).1
          unfold wl at this
          rw [List.length_map, List.length_range, nx_hM] at this
          omega
        rw [wl_get AC b z (by rw [nx_hM]; exact hk9)] at hq9
        rw [← Option.some.inj hq9]
        rcases Nat.lt_trichotomy (k9 + 1) (nx h) with c1 | c1 | c1
        · rw [cE_hM AC b z c1]
          exact (hP k9 _ (wl_get AC b z c1)).kept (hold _ (by show z + k9 < H.size; omega))
        · have hz9 : z + k9 = H.size := by omega
          rw [cE_arr AC b z (t := t) (by rw [kd_hM, if_pos c1]), ln_hM, if_pos c1, aV_ref b z he]
          show F.heap[z + k9]? = some (vp_cell _ _)
          rw [hz9, q2, vr_outer, vp_cell_q]
          congr 2
          funext y
          rw [gR_hM, if_pos c1]
          by_cases hy : y < N
          · rw [if_pos hy, if_pos hy]
            have e9 : adr b z (nx h + 1 + y) = H.size + 1 + y := by
              obtain ⟨w, hw⟩ : ∃ w, nx h + 1 + y = w + 1 := ⟨nx h + y, by omega⟩
              rw [hw]
              show z + w = _
              omega
            show _ = va_rf (some (adr b z (nx h + 1 + y)))
            rw [e9]
          · rw [if_neg hy, if_neg hy]
            rfl
        · have n1 : ¬ k9 + 1 = nx h := by omega
          have n2 : nx h ≤ k9 + 1 ∧ k9 + 1 ≤ nx h + N := by omega
          rw [cE_arr AC b z (t := t2) (by rw [kd_hM, if_neg n1, if_pos n2]), ln_hM, if_neg n1, if_pos n2, aV_int b z he2]
          show F.heap[z + k9]? = some (vp_cell _ _)
          have hz9 : z + k9 = H.size + 1 + (k9 - nx h) := by omega
          rw [hz9, hrow _ (by omega), vp_cell_i]
          show some ({ cls := AC t2, slots := Array.replicate K (defaultValue .int), vm := .none } : Cell) = _
          rw [arrV_new]
          congr 2
          funext y
          rw [gI_hM, if_pos n2]
          rfl
      have hS2 : va_S (Az z) s.heap F.heap locs := ⟨by rw [q1]; omega, fun x h1 h2 => (hold x (Nat.lt_of_lt_of_le h1 f1)).trans (hS.2.1 x h1 h2), hS.2.2⟩
      obtain ⟨t2', a1, b9⟩ := kk p e R s m args below meth c QQ X E F.heap locs lsR (cells + 1 + N) (slots + N + N * K) hP2 hS2 ⟨by rw [nx_hM]; omega, by rw [sc_hM]; omega, Bd_hM L xs ⟨r1, r2⟩ b3⟩ hL F rfl X'
      refine ⟨t2', step t2' ?_, b9⟩
      have e9 : Value.ref T.heap.size = toV b z (.inr (.inl (some (nx h)))) := by rw [hT, htp, top_ref b z b3.2.2.1]
      rw [e9]
      exact a1
    · exact kk.elim
  · exact kk.elim
end MULTI
end
