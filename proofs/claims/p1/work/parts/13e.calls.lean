/-! calls by a class above, of super, by an interface -/
section CALLS3
variable (l : Launch) (D : va_G) (AC : Nat → ClassId) (b : Nat × (Nat → Nat)) (z L : Nat) (xs : Nat → Int32) (G : Pg) {j pc : Nat}
theorem call_go5 (hHS : HS G (j := j) (pc := pc)) {p : Program} {e : Env} {R : Room} {s : State} {m : MethodId} {args : Array Value} {below : List Frame} {meth : Method} {c : Code} {QQ : State → Prop} {Q : MRes → Hp → Prop} (X : Ctx l D AC b z L xs j p R s m args meth c) (E : Ends l D AC b z L xs j p e R s m args below meth c QQ Q)
    {H : Heap} {locs : List Loc} {lsR : Array Slot} {cells slots mc ms : Nat} {ls : Lo} {st : Sk} {st0 : List Value} {a : Array Value} (hS : va_S (Az z) s.heap H locs) (hL : LR b z ls lsR (mL j))
    (hrun : vx_Run5 p l e R s m args below meth c H locs cells slots mc ms (F0 m pc lsR st0) (st.map (toV b z)) (QcM D AC b z L xs (Q2 G (j := j) (pc := pc) (RX l D AC b z L xs) (pc + 5) ls st Q) a) (XcM D AC b z L xs (Q2 G (j := j) (pc := pc) (RX l D AC b z L xs) (pc + 5) ls st Q)) (Az z)) :
    W p l e R s m args below meth c H locs cells slots QQ (F0 m pc lsR st0) := by
  have hz : z ≤ s.heap.size := X.2.2.2.2.2.2.2.2.2.2.1
  intro T hT Y
  rcases hrun T hT Y with ⟨v, st₀, t, T', Lc, h0, X', hLc, e1, e2, hq, go⟩ | ⟨q, st₀, t, T', Lc, nm, ce, h0, X', hLc, e1, e2, hx, hce, hcv, hcl, go⟩
  · obtain ⟨v9, h2, hv, hQ, hP2, hF, hHB⟩ := hq
    cases hv
    have hS2 := (vx_keep h0 e1 hS (fun _ _ h => h) (fun _ h => h) hLc hF).2.2
    have Z := st_tight X'
    have hsz := (st_facts X' hz).1
    have hsp := st_split X' hz
    rw [← e1] at hP2 hHB
    obtain ⟨w1, w2, w3⟩ := hHB
    have hQ9 : RX l D AC b z L xs j (pc + 5) ls (v9.toList ++ st) h2 Q := hQ
    obtain ⟨t2, a1, b1⟩ := hQ9 p e R s m args below meth c QQ X E T'.heap (locs ++ Lc) lsR _ _ hP2 hS2 ⟨by omega, by omega, w3⟩ hL T' rfl Z
    refine ⟨t2, go t2 ?_, b1⟩
    have ef : ({ F0 m pc lsR st0 with pc := (F0 m pc lsR st0).pc + 5, stack := (v9.map (toV b z)).toList ++ st.map (toV b z) } : JFrame) = F0 m (pc + 5) lsR ((v9.toList ++ st).map (toV b z)) := by
      cases v9 <;> rfl
    rw [ef]
    exact a1
  · obtain ⟨Ec, h2, hE, hQ, hP2, hF, hHB⟩ := hx
    have hS2 := (vx_keep h0 e1 hS (fun _ _ h => h) (fun _ h => h) hLc hF).2.2
    have Z := st_tight X'
    have hsz := (st_facts X' hz).1
    have hsp := st_split X' hz
    rw [← e1] at hP2 hHB hce
    obtain ⟨w1, w2, w3⟩ := hHB
    have hB9 : Bg z L xs s h2 (T'.heap.size - s.heap.size) (Sz s.heap.size T'.heap) := ⟨by omega, by omega, w3⟩
    have hh := hHS Ec nm hE
    have hw : vx_W p l e R s m args below meth c T'.heap (locs ++ Lc) (T'.heap.size - s.heap.size) (Sz s.heap.size T'.heap) QQ (F0 m pc lsR (st.map (toV b z))) q := by
      unfold Q2 at hQ
      dsimp only at hQ
      cases hg : G.2.2 j pc Ec with
      | none =>
        rw [hg] at hQ hh
        exact E.2 Ec nm h2 T'.heap (locs ++ Lc) lsR _ _ pc _ q ce hQ hE hP2 hS2 hB9 hce hcv hcl hh
      | some o =>
        obtain ⟨npc, k⟩ := o
        rw [hg] at hQ hh
        have hQ8 : npc ≠ 0 ∧ RX l D AC b z L xs j npc (lSet1 ls k none) [] h2 Q := hQ
        obtain ⟨pre, x, suf, cnm, q1, q2, q3, q4, q5, q6, q7, q8⟩ := hh hQ8.1
        obtain ⟨hK, -, -, -, hCast, -, -, hNc, -⟩ := id X.2.2.2.2.2.2.2.2.2.1
        have htab : c.exceptionTable.toList = tableOf (mH j) := X.2.2.2.2.2.2.2.2.1
        refine vx_catch X.2.2.2.2.1 pre x suf (htab.trans q1) (fun y hy => ?_) q3 q4 (X.2.2.2.2.2.1 _ q5) (va_Nw.use rfl (hCast _ q6)) hce hcv hcl ?_
        · rcases q2 y hy with r1 | ⟨r1, nm9, r2, r3⟩
          · exact Or.inl r1
          · exact Or.inr ⟨r1, nm9, X.2.2.2.2.2.1 _ r2, hNc _ r3⟩
        · have hQ9 : RX l D AC b z L xs j npc (lSet1 ls k none) [] h2 Q := hQ8.2
          rcases q8 with ⟨k4, r1, r2, rfl⟩ | ⟨r2, rfl⟩
          · exact lv_astore_n X.1 X.2.1 r2 r1 (LR_has b z hL) q7 rfl (fun ls9 hl9 => hQ9 p e R s m args below meth c QQ X E T'.heap (locs ++ Lc) ls9 _ _ hP2 hS2 hB9 (LR_set1 b z (fun w hw => by cases hw) hl9))
          · exact lv_astore X.1 X.2.1 r2 (LR_has b z hL) q7 rfl (fun ls9 hl9 => hQ9 p e R s m args below meth c QQ X E T'.heap (locs ++ Lc) ls9 _ _ hP2 hS2 hB9 (LR_set1 b z (fun w hw => by cases hw) hl9))
    obtain ⟨t2, a1, b1⟩ := hw T' rfl Z
    exact ⟨t2, go.trans a1, b1⟩
theorem sel_priv {C : String} {x0 y0 y : MethodName} (hy : y.cls ≠ "java/lang/invoke/MethodHandle" ∧ y.cls ≠ "java/lang/invoke/VarHandle") (h0 : y0.cls = y.cls) {args : Array Value} {s : State} (w1 : (Cond.selects C x0 y0).before args s = true) (w2 : (Cond.privateMethod y).before args s = true) (w3 : (Cond.instanceMethod y).before args s = true) : (Cond.selects C y y).before args s = true := by
  obtain ⟨c, r, m0, hc, -, hm0, -, k, hk, hni⟩ := Cond.selects_spec w1
  obtain ⟨mk, methM, hnamed, hmethM, -, -⟩ := Cond.instanceMethod_spec w3
  have hf0 := findClass_of_methodNamed hm0
  rw [h0] at hf0
  have hcls : mk.cls = m0.cls := Option.some.inj ((findClass_of_methodNamed hnamed).symm.trans hf0)
  have hfound : s.methodFound? y.cls y.name y.desc = some mk := State.methodFound?_of_named hnamed hy
  have hsel : selectMethod {} s.vm c mk = .method mk := selectMethod_private hmethM (Cond.privateMethod_at w2 mk methM hnamed hmethM)
  simp only [Cond.before, Cond.holds, Cond.value, hc, hfound, hnamed, hsel, hcls, hk]
  simp
  exact hni
theorem sn_callU {ci j2 na idx N : Nat} {C owner : String} {T : u_T} {x : MethodName} (hd : decode (mC j) pc = .ok (.invokevirtual idx, 3)) (hG : G.2.1 j2 = mL j2) (hHS : HS G (j := j) (pc := pc)) (ok : CalOK j j2 na) (hh : mH j2 = []) (hc : kN[ci]? = some (C, T, N)) (h100 : ci < 100)
    (ho : owner ≠ "java/lang/invoke/MethodHandle" ∧ owner ≠ "java/lang/invoke/VarHandle") (hx : (parseMethodDescriptor x.desc).map (fun d => d.parameters.length) = some na) (w1 : Cond.methodLink (mO j) idx x ∈ TBg) (w2 : Cond.sameMethod x.cls owner x.name x.desc ∈ TBg) (w3 : Cond.instanceMethod (mY j2) ∈ TBg)
    (hdec : ∀ (args : Array Value) (s : State), (∀ w ∈ TBg, w.before args s = true) → va_Decl s ⟨owner, x.name, x.desc⟩) (hsel : Cond.selects C x (mY j2) ∈ TBg ∨ Cond.selects C x (mY j2) ∈ kSel) : Snd l D AC b z L xs G j pc (oCallV ci j2 na (mL j2) (pc + 3)) := by
  intro ls st h Q kk p e R s m args below meth c QQ X E H locs lsR cells slots hP hS hB hL
  unfold oCallV at kk
  split at kk
  · rename_i as a rest hpop
    split at kk
    · rename_i hK
      obtain ⟨hK, hK3⟩ := and2 hK
      obtain ⟨hK, hK2⟩ := and2 hK
      obtain ⟨h2, h3⟩ := isK_spec hK
      obtain ⟨i, rfl⟩ := id_pos L xs hB.2.2 h3 h100
      have hcr : catS rest ≤ 8 := of_decide_eq_true hK2
      have hca : catS as < mL j2 := of_decide_eq_true hK3
      obtain ⟨t, p1, p2, p3⟩ := popA_spec na [] st as _ hpop
      have hz : z ≤ s.heap.size := X.2.2.2.2.2.2.2.2.2.2.1
      obtain ⟨g1, g2, g3, g4, g5⟩ := X.2.2.2.2.2.2.2.2.2.2.2
      have hE := X.2.2.2.2.2.2.2.2.2.1
      obtain ⟨o1, o2, o3, o4, o5, o6⟩ := ok
      refine w_tight hz fun f1 f2 f3 f4 => ?_
      have hHB := HB_of z L xs hB f2 f3
      obtain ⟨y1, y2, y3, y4, -⟩ := id hHB
      have he := wl_get AC b z h2
      rw [cE_obj AC b z hc h3 h100] at he
      have kk9 : RX l D AC b z L xs j2 0 (entL (.inr (.inl (some (i + 1))) :: as) (mL j2)) [] h (Q2 G (j := j) (pc := pc) (RX l D AC b z L xs) (pc + 3) ls rest Q) := by rw [← hG]; exact kk
      have hcat : catS (.inr (.inl (some (i + 1))) :: as) ≤ mL j2 := by
        show catV _ + catS as ≤ mL j2
        show 1 + catS as ≤ mL j2
        omega
      have hM := met_of l D AC b z L xs o1 g5 hcat kk9 hP hHB (Nat.le_trans hz f1)
      obtain ⟨q1, q2⟩ := call_pre l D AC b z L xs X hS (.inr (.inl (some (i + 1))) :: as)
      have hlo := id_low L xs hB.2.2 h2
      have hst := stk_eq b z p1 p3
      simp only [List.map_cons, tvs b z hlo] at q2 hst
      have hts := X.2.2.2.2.2.1
      have hcode : (Cond.code (mY j2) (mC j2) (mL j2) (mR j2)).before args s = true := by rw [← mCw_nil hh]; exact hts _ o1.2.2
      have hwin : Cond.code (mY j2) (mC j2) (mL j2) (mR j2) ∈ mWs j2 := by rw [← mCw_nil hh]; exact List.mem_cons_self
      have hsl : (Cond.selects C x (mY j2)).before args s = true := hsel.elim (fun h9 => hts _ h9) (fun h9 => va_Nw.use rfl (hE.tl.2.2.2.2.2.2 _ h9))
      have hrun := vx_runU (Ts := TBg) (own := mO j) (index := idx) (C := C) (b := z + i) (As := as.map (toV b z)) (rest := rest.map (toV b z)) (bytes := mC j2) (maxL := mL j2) (ret := mR j2) (n := na) (nL := mL j) (cells := H.size - s.heap.size) (slots := Sz s.heap.size H) (below := below) (meth := meth) (locs := locs) (e := e) (R := R) (H := H) (g := F0 m pc lsR (st.map (toV b z))) ⟨X.1, X.2.1, X.2.2.2.1, X.2.2.2.2.1, X.2.2.2.2.2.1⟩ hM
        (⟨⟨rfl, rfl, Nat.le_trans o2 g1, Nat.le_trans o3 g2, mWs_pay o1.2.2 hts, hwin⟩, hcode, hts _ o4, ho, par_len hx, hts _ w1, hts _ w2, hdec _ _ hts, hsl, hts _ w3⟩ : va_CU _ _ _ _ _ owner _ _ _ _ _ _ _ _ _ _ _)
        ⟨q1, va_recv (D := D) hE.1 hP hc he, q2⟩ rfl (as_len b z p2 p3) hL.1 hst (call_room (R := R) b z hcr) hd ⟨by show _ + (z + cM - H.size) ≤ _; omega, by show _ + (sM - Sz z H) ≤ _; omega⟩
      exact call_go l D AC b z L xs G hHS X E hS hL hrun
    · exact kk.elim
  · exact kk.elim
theorem sn_callSU {ci j2 na idx N : Nat} {C : String} {T : u_T} (hd : decode (mC j) pc = .ok (.invokespecial idx, 3)) (hG : G.2.1 j2 = mL j2) (hHS : HS G (j := j) (pc := pc)) (ok : CalOK j j2 na) (hh : mH j2 = []) (hc : kN[ci]? = some (C, T, N)) (h100 : ci < 100) (hn : (mY j2).name ≠ "<init>")
    (w1 : Cond.methodLink (mO j) idx (mY j2) ∈ TBg) (w2 : Cond.sameMethod (mY j2).cls (mY j2).cls (mY j2).name (mY j2).desc ∈ TBg) (w3 : Cond.superclass (mO j) (mY j2).cls ∈ TBg) (w4 : Cond.instanceMethod (mY j2) ∈ TBg) : Snd l D AC b z L xs G j pc (oCallV ci j2 na (mL j2) (pc + 3)) := by
  intro ls st h Q kk p e R s m args below meth c QQ X E H locs lsR cells slots hP hS hB hL
  unfold oCallV at kk
  split at kk
  · rename_i as a rest hpop
    split at kk
    · rename_i hK
      obtain ⟨hK, hK3⟩ := and2 hK
      obtain ⟨hK, hK2⟩ := and2 hK
      obtain ⟨h2, h3⟩ := isK_spec hK
      obtain ⟨i, rfl⟩ := id_pos L xs hB.2.2 h3 h100
      have hcr : catS rest ≤ 8 := of_decide_eq_true hK2
      have hca : catS as < mL j2 := of_decide_eq_true hK3
      obtain ⟨t, p1, p2, p3⟩ := popA_spec na [] st as _ hpop
      have hz : z ≤ s.heap.size := X.2.2.2.2.2.2.2.2.2.2.1
      obtain ⟨g1, g2, g3, g4, g5⟩ := X.2.2.2.2.2.2.2.2.2.2.2
      have hE := X.2.2.2.2.2.2.2.2.2.1
      obtain ⟨o1, o2, o3, o4, o5, o6⟩ := ok
      refine w_tight hz fun f1 f2 f3 f4 => ?_
      have hHB := HB_of z L xs hB f2 f3
      obtain ⟨y1, y2, y3, y4, -⟩ := id hHB
      have he := wl_get AC b z h2
      rw [cE_obj AC b z hc h3 h100] at he
      have kk9 : RX l D AC b z L xs j2 0 (entL (.inr (.inl (some (i + 1))) :: as) (mL j2)) [] h (Q2 G (j := j) (pc := pc) (RX l D AC b z L xs) (pc + 3) ls rest Q) := by rw [← hG]; exact kk
      have hcat : catS (.inr (.inl (some (i + 1))) :: as) ≤ mL j2 := by
        show catV _ + catS as ≤ mL j2
        show 1 + catS as ≤ mL j2
        omega
      have hM := met_of l D AC b z L xs o1 g5 hcat kk9 hP hHB (Nat.le_trans hz f1)
      obtain ⟨q1, q2⟩ := call_pre l D AC b z L xs X hS (.inr (.inl (some (i + 1))) :: as)
      have hlo := id_low L xs hB.2.2 h2
      have hst := stk_eq b z p1 p3
      simp only [List.map_cons, tvs b z hlo] at q2 hst
      have hts := X.2.2.2.2.2.1
      have hcode : (Cond.code (mY j2) (mC j2) (mL j2) (mR j2)).before args s = true := by rw [← mCw_nil hh]; exact hts _ o1.2.2
      have hwin : Cond.code (mY j2) (mC j2) (mL j2) (mR j2) ∈ mWs j2 := by rw [← mCw_nil hh]; exact List.mem_cons_self
      have hrun := vx_runSU (Ts := TBg) (own := mO j) (index := idx) (C := C) (b := z + i) (As := as.map (toV b z)) (rest := rest.map (toV b z)) (bytes := mC j2) (maxL := mL j2) (ret := mR j2) (n := na) (nL := mL j) (cells := H.size - s.heap.size) (slots := Sz s.heap.size H) (below := below) (meth := meth) (locs := locs) (e := e) (R := R) (H := H) (g := F0 m pc lsR (st.map (toV b z))) (hE.1.1 ci _ hc).2 ⟨X.1, X.2.1, X.2.2.2.1, X.2.2.2.2.1, X.2.2.2.2.2.1⟩ hM
        ⟨⟨rfl, rfl, Nat.le_trans o2 g1, Nat.le_trans o3 g2, mWs_pay o1.2.2 hts, hwin⟩, hts _ w1, hts _ w2, hts _ w3, hts _ w4, hts _ o4, hcode, hn, par_len o6⟩
        ⟨q1, va_recv (D := D) hE.1 hP hc he, q2⟩ rfl (as_len b z p2 p3) hL.1 hst (call_room (R := R) b z hcr) hd ⟨by show _ + (z + cM - H.size) ≤ _; omega, by show _ + (sM - Sz z H) ≤ _; omega⟩
      exact call_go l D AC b z L xs G hHS X E hS hL hrun
    · exact kk.elim
  · exact kk.elim
theorem sn_callF {ci j2 na idx N count : Nat} {C : String} {T : u_T} {x : MethodName} (hd : decode (mC j) pc = .ok (.invokeinterface idx count, 5)) (hG : G.2.1 j2 = mL j2) (hHS : HS G (j := j) (pc := pc)) (ok : CalOK j j2 na) (hh : mH j2 = []) (hc : kN[ci]? = some (C, T, N)) (h100 : ci < 100)
    (hx : (parseMethodDescriptor x.desc).map (fun d => d.parameters.length) = some na) (w1 : Cond.methodLink (mO j) idx x ∈ TBg) (w2 : (C, x, mY j2) ∈ kFw) (w3 : Cond.selects C x (mY j2) ∈ TBg) (w4 : Cond.instanceMethod (mY j2) ∈ TBg) : Snd l D AC b z L xs G j pc (oCallV ci j2 na (mL j2) (pc + 5)) := by
  intro ls st h Q kk p e R s m args below meth c QQ X E H locs lsR cells slots hP hS hB hL
  unfold oCallV at kk
  split at kk
  · rename_i as a rest hpop
    split at kk
    · rename_i hK
      obtain ⟨hK, hK3⟩ := and2 hK
      obtain ⟨hK, hK2⟩ := and2 hK
      obtain ⟨h2, h3⟩ := isK_spec hK
      obtain ⟨i, rfl⟩ := id_pos L xs hB.2.2 h3 h100
      have hcr : catS rest ≤ 8 := of_decide_eq_true hK2
      have hca : catS as < mL j2 := of_decide_eq_true hK3
      obtain ⟨t, p1, p2, p3⟩ := popA_spec na [] st as _ hpop
      have hz : z ≤ s.heap.size := X.2.2.2.2.2.2.2.2.2.2.1
      obtain ⟨g1, g2, g3, g4, g5⟩ := X.2.2.2.2.2.2.2.2.2.2.2
      have hE := X.2.2.2.2.2.2.2.2.2.1
      obtain ⟨o1, o2, o3, o4, o5, o6⟩ := ok
      refine w_tight hz fun f1 f2 f3 f4 => ?_
      have hHB := HB_of z L xs hB f2 f3
      obtain ⟨y1, y2, y3, y4, -⟩ := id hHB
      have he := wl_get AC b z h2
      rw [cE_obj AC b z hc h3 h100] at he
      have kk9 : RX l D AC b z L xs j2 0 (entL (.inr (.inl (some (i + 1))) :: as) (mL j2)) [] h (Q2 G (j := j) (pc := pc) (RX l D AC b z L xs) (pc + 5) ls rest Q) := by rw [← hG]; exact kk
      have hcat : catS (.inr (.inl (some (i + 1))) :: as) ≤ mL j2 := by
        show catV _ + catS as ≤ mL j2
        show 1 + catS as ≤ mL j2
        omega
      have hM := met_of l D AC b z L xs o1 g5 hcat kk9 hP hHB (Nat.le_trans hz f1)
      obtain ⟨q1, q2⟩ := call_pre l D AC b z L xs X hS (.inr (.inl (some (i + 1))) :: as)
      have hlo := id_low L xs hB.2.2 h2
      have hst := stk_eq b z p1 p3
      simp only [List.map_cons, tvs b z hlo] at q2 hst
      have hts := X.2.2.2.2.2.1
      have hcode : (Cond.code (mY j2) (mC j2) (mL j2) (mR j2)).before args s = true := by rw [← mCw_nil hh]; exact hts _ o1.2.2
      have hwin : Cond.code (mY j2) (mC j2) (mL j2) (mR j2) ∈ mWs j2 := by rw [← mCw_nil hh]; exact List.mem_cons_self
      have hF : va_Fw C x (mY j2) s := hE.tl.2.2.2.2.2.1 (C, x, mY j2) w2
      have hmh := kFw_ok (C, x, mY j2) w2
      have hrun := vx_runF (Ts := TBg) (own := mO j) (index := idx) (C := C) (b := z + i) (As := as.map (toV b z)) (rest := rest.map (toV b z)) (bytes := mC j2) (maxL := mL j2) (ret := mR j2) (n := na) (nL := mL j) (cells := H.size - s.heap.size) (slots := Sz s.heap.size H) (below := below) (meth := meth) (locs := locs) (e := e) (R := R) (H := H) (g := F0 m pc lsR (st.map (toV b z))) (hE.1.1 ci _ hc).2 ⟨X.1, X.2.1, X.2.2.2.1, X.2.2.2.2.1, X.2.2.2.2.2.1⟩ hM
        ⟨⟨rfl, rfl, Nat.le_trans o2 g1, Nat.le_trans o3 g2, mWs_pay o1.2.2 hts, hwin⟩, hts _ w1, va_any rfl hF.1, va_any rfl hF.2.1, hts _ w3, hts _ w4, va_any rfl hF.2.2.1, va_any rfl hF.2.2.2.1, va_any rfl hF.2.2.2.2, hts _ o4, hcode, hmh, par_len hx⟩
        ⟨q1, va_recv (D := D) hE.1 hP hc he, q2⟩ rfl (as_len b z p2 p3) hL.1 hst (call_room (R := R) b z hcr) hd ⟨by show _ + (z + cM - H.size) ≤ _; omega, by show _ + (sM - Sz z H) ≤ _; omega⟩
      exact call_go5 l D AC b z L xs G hHS X E hS hL hrun
    · exact kk.elim
  · exact kk.elim
end CALLS3
