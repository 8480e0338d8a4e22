/-! ends, throws, calls, rows of rows -/
section ENDS
variable (l : Launch) (D : va_G) (AC : Nat → ClassId) (b : Nat × (Nat → Nat)) (z L : Nat) (xs : Nat → Int32) (G : Pg) {j pc : Nat}
theorem sn_ret (hd : decode (mC j) pc = .ok (.return_, 1)) (hr : mR j = none) : Snd l D AC b z L xs G j pc oRet := by
  intro ls st h Q kk p e R s m args below meth c QQ X E H locs lsR cells slots hP hS hB hL
  unfold oRet at kk
  split at kk
  · exact E.1 none h H locs lsR cells slots pc kk hP hS hB ⟨hr, hd⟩
  · exact kk.elim
theorem sn_retI (hd : decode (mC j) pc = .ok (.ireturn, 1)) (hr : mR j = some .int) : Snd l D AC b z L xs G j pc oRetI := by
  intro ls st h Q kk p e R s m args below meth c QQ X E H locs lsR cells slots hP hS hB hL
  unfold oRetI at kk
  split at kk
  · rename_i x
    exact E.1 (some (.inl x)) h H locs lsR cells slots pc kk hP hS hB ⟨⟨_, hr, rfl⟩, hd⟩
  · exact kk.elim
theorem sn_retZ (hd : decode (mC j) pc = .ok (.ireturn, 1)) (hr : mR j = some .boolean) : Snd l D AC b z L xs G j pc oRetZ := by
  intro ls st h Q kk p e R s m args below meth c QQ X E H locs lsR cells slots hP hS hB hL
  unfold oRetZ at kk
  split at kk
  · rename_i x
    split at kk
    · rename_i hx
      simp only [Bool.or_eq_true, decide_eq_true_eq] at hx
      exact E.1 (some (.inl x)) h H locs lsR cells slots pc kk hP hS hB ⟨⟨_, hr, by rcases hx with rfl | rfl <;> decide⟩, hd⟩
    · exact kk.elim
  · exact kk.elim
theorem sn_retA {rt : FieldType} (hd : decode (mC j) pc = .ok (.areturn, 1)) (hr : mR j = some rt) (ht : (∃ n, rt = .object n) ∨ ∃ t, rt = .array t) : Snd l D AC b z L xs G j pc oRetA := by
  intro ls st h Q kk p e R s m args below meth c QQ X E H locs lsR cells slots hP hS hB hL
  unfold oRetA at kk
  split at kk
  · rename_i x
    exact E.1 (some (.inr (.inl x))) h H locs lsR cells slots pc kk hP hS hB ⟨⟨_, hr, ht⟩, hd⟩
  · exact kk.elim
theorem sn_retL (hd : decode (mC j) pc = .ok (.lreturn, 1)) (hr : mR j = some .long) : Snd l D AC b z L xs G j pc oRetL := by
  intro ls st h Q kk p e R s m args below meth c QQ X E H locs lsR cells slots hP hS hB hL
  unfold oRetL at kk
  split at kk
  · rename_i x
    exact E.1 (some (.inr (.inr (.inl x)))) h H locs lsR cells slots pc kk hP hS hB ⟨hr, hd⟩
  · exact kk.elim
theorem sn_retD (hd : decode (mC j) pc = .ok (.dreturn, 1)) (hr : mR j = some .double) : Snd l D AC b z L xs G j pc oRetD := by
  intro ls st h Q kk p e R s m args below meth c QQ X E H locs lsR cells slots hP hS hB hL
  unfold oRetD at kk
  split at kk
  · rename_i x
    exact E.1 (some (.inr (.inr (.inr x)))) h H locs lsR cells slots pc kk hP hS hB ⟨hr, hd⟩
  · exact kk.elim
theorem catS_sum (st : Sk) : ((st.map (toV b z)).map fun v => v.category).sum = catS st := by
  induction st with
  | nil => rfl
  | cons v r ih =>
    show (toV b z v).category + ((r.map (toV b z)).map fun v => v.category).sum = catV v + catS r
    rw [cat_toV, ih]
theorem sn_obj {idx : Nat} (hd : decode (mC j) pc = .ok (.invokespecial idx, 3)) (hf : 1 ≤ mF j) (hw : 20 ≤ mW j) (w1 : Cond.methodLink (mO j) idx Lib.objectInit ∈ TBg) (w2 : Cond.instanceMethod Lib.objectInit ∈ TBg) (w3 : Cond.code Lib.objectInit ⟨#[0xb1]⟩ 1 none ∈ TBg) : Snd l D AC b z L xs G j pc (oObj (pc + 3)) := by
  intro ls st h Q kk p e R s m args below meth c QQ X E H locs lsR cells slots hP hS hB hL
  unfold oObj at kk
  split at kk
  · split at kk
    · rename_i a r hc
      obtain ⟨g1, g2, -⟩ := X.2.2.2.2.2.2.2.2.2.2.2
      refine W.objInit X.1 X.2.1 X.2.2.2.2.1 (X.2.2.2.2.2.1 _ w1) (X.2.2.2.2.2.1 _ w2) (X.2.2.2.2.2.1 _ w3) rfl (by rw [X.2.2.2.1]; exact hL.1) (rest := r.map (toV b z)) rfl hd (Nat.le_trans hf g1) ?_ ?_
      · rw [catS_sum]
        show 2 * 0 + catS r + 12 ≤ R.locals
        omega
      · exact kk p e R s m args below meth c QQ X E H locs lsR cells slots hP hS hB hL
    · exact kk.elim
  · exact kk.elim
/-- throw new X("..") -/
theorem sn_throw {Ec ci ik is ic : Nat} {own nm text : String} {T0 : u_T} {nms : List String} (ho : mO j = own) (hEc : kEx[Ec]? = some nm) (hc : kN[ci]? = some (nm, T0, 0)) (h100 : ci < 100) (hf : 6 ≤ mF j) (hw : 82 ≤ mW j) (hnl : nms.length = 2)
    (hcls : Bundle.fit nm = true) (hnames : ∀ n ∈ nms, Bundle.fit n = true) (w1 : Cond.classLink own ik nm ∈ TBg) (w2 : Cond.initialized nm ∈ TBg) (hstr : (own, is, text) ∈ kStr)
    (hg : ∀ w ∈ (vx_atS own ic nm nms).filter goodWord, w ∈ TBg) (hcast : (nm, nm) ∈ kCast) (hng : ∀ w ∈ (vx_atS own ic nm nms).filter (fun w => !goodWord w), w = .castable nm nm ∨ w ∈ kDecl.map Cond.declares) (hot : ∀ w ∈ vx_atS own ic nm nms, vx_ot w = true)
    (hmH : mH j = []) (d0 : decode (mC j) pc = .ok (.new ik, 3)) (d3 : decode (mC j) (pc + 3) = .ok (.dup, 1)) (dd : (decode (mC j) (pc + 4) = .ok (.ldc is, 2) ∧ decode (mC j) (pc + 6) = .ok (.invokespecial ic, 3) ∧ decode (mC j) (pc + 9) = .ok (.athrow, 1)) ∨ (decode (mC j) (pc + 4) = .ok (.ldc_w is, 3) ∧ decode (mC j) (pc + 7) = .ok (.invokespecial ic, 3) ∧ decode (mC j) (pc + 10) = .ok (.athrow, 1))) :
    Snd l D AC b z L xs G j pc (oThr cM sM Ec ci) := by
  subst ho
  intro ls st h Q kk p e R s m args below meth c QQ X E H locs lsR cells slots hP hS hB hL
  unfold oThr at kk
  split at kk
  · split at kk
    · rename_i hR
      obtain ⟨r1, r2⟩ := okR_spec hR
      have hz : z ≤ s.heap.size := X.2.2.2.2.2.2.2.2.2.2.1
      obtain ⟨g1, g2, g3, g4, g5⟩ := X.2.2.2.2.2.2.2.2.2.2.2
      obtain ⟨hK, hU, hN9, -, hCast, hDecl, hStr, -⟩ := id X.2.2.2.2.2.2.2.2.2.1
      obtain ⟨sa, hsa⟩ := hStr _ hstr
      refine w_facts hz fun f1 f2 f3 => ?_
      have htp := top_size D AC b z L xs hz hP hS hB f2
      obtain ⟨b1, b2, b3⟩ := hB
      have hat : ∀ w ∈ vx_atS (mO j) ic nm nms, w.before args s = true := by
        intro w hw9
        by_cases g : goodWord w = true
        · exact X.2.2.2.2.2.1 w (hg w (List.mem_filter.mpr ⟨hw9, g⟩))
        · rcases hng w (List.mem_filter.mpr ⟨hw9, by simp [g]⟩) with rfl | hx
          · exact va_Nw.use rfl (hCast _ hcast)
          · obtain ⟨x, hx9, rfl⟩ := List.mem_map.mp hx
            exact va_Nw.use rfl (hDecl _ hx9)
      have hgood : ∀ w ∈ Cond.classLink (mO j) ik nm :: Cond.initialized nm :: vx_atS (mO j) ic nm nms, vx_ot w = true := by
        intro w hw9
        rcases List.mem_cons.mp hw9 with rfl | hw9
        · unfold vx_ot; rw [tb_good w1]; exact Bool.or_true _
        · rcases List.mem_cons.mp hw9 with rfl | hw9
          · unfold vx_ot; rw [tb_good w2]; exact Bool.or_true _
          · exact hot w hw9
      have last : ∀ (H1 : Heap) (pc9 : Nat), decode (mC j) pc9 = .ok (.athrow, 1) → va_P D kN (wl AC b z h ++ [(H.size, .inr (ci, []))]) H1 → va_S (Az z) s.heap H1 locs → W p l e R s m args below meth c H1 locs (cells + 1) (slots + 6) QQ (F0 m pc9 lsR [.ref H.size]) := by
        intro H1 pc9 d9 hP1 hS1
        have hP2 : va_P D kN (wl AC b z (hN h ci 0 6)) H1 := by
          rw [wl_push AC b z (h := h) (h' := hN h ci 0 6) b3.2.2.1 rfl (fun a ha => cE_hN AC b z (by omega)), cE_obj AC b z hc (by rw [kd_hN, if_pos rfl]) h100, ← htp]
          exact hP1
        have hlen : (wl AC b z h).length = nx h - 1 := by unfold wl; rw [List.length_map, List.length_range]
        have hat9 := hP1 (nx h - 1) (H.size, .inr (ci, [])) (by rw [List.getElem?_append_right (by omega), hlen, Nat.sub_self]; rfl)
        obtain ⟨r9, hr9, ce, hce, hcl, hcv, -⟩ := hat9
        have hcn : s.vm.findClass nm = some ce.cls := by
          have q := (hK.1 ci _ hc).2.1
          rw [hcl]
          exact q
        refine vx_athrow X.1 X.2.1 d9 ?_
        refine E.2 Ec nm (hN h ci 0 6) H1 locs lsR (cells + 1) (slots + 6) pc9 [] H.size ce kk hEc hP2 hS1 ⟨?_, ?_, Bd_hN L xs hR b3⟩ hce hcv hcn (by rw [hmH]; intro x hx; cases hx)
        · rw [nx_hN]; omega
        · rw [sc_hN]; omega
      have hA : ∀ q, s.heap.size ≤ q → Az z q := fun q hq => Nat.le_trans hz hq
      have hz9 : lsR.size = c.maxLocals := by rw [X.2.2.2.1]; exact hL.1
      rcases dd with ⟨d4, d6, d9⟩ | ⟨d4, d6, d9⟩
      · exact ms_makeS X.1 X.2.1 g5 X.2.2.2.2.1 hcls hnames (X.2.2.2.2.2.1 _ w1) (X.2.2.2.2.2.1 _ w2) hsa hat hgood hU hN9 hS hz9 d0 d3 d4 d6 hK hP (wl_D AC b z h) hA hc (by omega) (by rw [hnl]; show 0 + _ ≤ _; omega) (by omega) (by omega) (fun H1 hP1 hS1 => last H1 _ d9 hP1 hS1)
      · exact ms_makeW X.1 X.2.1 g5 X.2.2.2.2.1 hcls hnames (X.2.2.2.2.2.1 _ w1) (X.2.2.2.2.2.1 _ w2) hsa hat hgood hU hN9 hS hz9 d0 d3 d4 d6 hK hP (wl_D AC b z h) hA hc (by omega) (by rw [hnl]; show 0 + _ ≤ _; omega) (by omega) (by omega) (fun H1 hP1 hS1 => last H1 _ d9 hP1 hS1)
    · exact kk.elim
  · exact kk.elim
end ENDS
section CALLS
variable (l : Launch) (D : va_G) (AC : Nat → ClassId) (b : Nat × (Nat → Nat)) (z L : Nat) (xs : Nat → Int32) (G : Pg) {j pc : Nat}
/-- where an exception of a call at pc goes: to a handler that stores it and goes on, or out -/
def HS : Prop := ∀ (E : Nat) (nm : String), kEx[E]? = some nm → match G.2.2 j pc E with
  | none => ∀ x ∈ tableOf (mH j), covers x pc = false
  | some (npc, k) => npc ≠ 0 → ∃ (pre : List ExceptionTableEntry) (x : ExceptionTableEntry) (suf : List ExceptionTableEntry) (cnm : String), tableOf (mH j) = pre ++ x :: suf ∧ (∀ y ∈ pre, covers y pc = false ∨ (y.catchType ≠ 0 ∧ ∃ nm9 : String, Cond.classLink (mO j) y.catchType nm9 ∈ TBg ∧ (nm, nm9) ∈ kNc)) ∧ covers x pc = true ∧ x.catchType ≠ 0 ∧
      Cond.classLink (mO j) x.catchType cnm ∈ TBg ∧ (nm, cnm) ∈ kCast ∧ k < mL j ∧ ((∃ k4 : Fin 4, (k4 : Nat) = k ∧ decode (mC j) x.handlerPc = .ok (.astore_n k4, 1) ∧ npc = x.handlerPc + 1) ∨ (decode (mC j) x.handlerPc = .ok (.astore k, 2) ∧ npc = x.handlerPc + 2))
/-- what is asked of M behind a call -/
def Q2 (X : Jd) (pc' : Nat) (ls : Lo) (st : Sk) (Q : MRes → Hp → Prop) : MRes → Hp → Prop := fun r h2 => match r with
  | .inl v => X j pc' ls (v.toList ++ st) h2 Q
  | .inr E => match G.2.2 j pc E with
    | some (npc, k) => npc ≠ 0 ∧ X j npc (lSet1 ls k none) [] h2 Q
    | none => Q (.inr E) h2
theorem call_go (hHS : HS G (j := j) (pc := pc)) {p : Program} {e : Env} {R : Room} {s : State} {m : MethodId} {args : Array Value} {below : List Frame} {meth : Method} {c : Code} {QQ : State → Prop} {Q : MRes → Hp → Prop} (X : Ctx l D AC b z L xs j p R s m args meth c) (E : Ends l D AC b z L xs j p e R s m args below meth c QQ Q)
    {H : Heap} {locs : List Loc} {lsR : Array Slot} {cells slots mc ms : Nat} {ls : Lo} {st : Sk} {st0 : List Value} {a : Array Value} (hS : va_S (Az z) s.heap H locs) (hL : LR b z ls lsR (mL j))
    (hrun : vx_Run p l e R s m args below meth c H locs cells slots mc ms (F0 m pc lsR st0) (st.map (toV b z)) (QcM D AC b z L xs (Q2 G (j := j) (pc := pc) (RX l D AC b z L xs) (pc + 3) ls st Q) a) (XcM D AC b z L xs (Q2 G (j := j) (pc := pc) (RX l D AC b z L xs) (pc + 3) ls st Q)) (Az z)) :
    W p l e R s m args below meth c H locs cells slots QQ (F0 m pc lsR st0) := by
  have hz : z ≤ s.heap.size := X.2.2.2.2.2.2.2.2.2.2.1
  intro T hT Y
  rcases hrun T hT Y with ⟨v, st₀, t, T', Lc, h0, X', hLc, e1, e2, hq, go⟩ | ⟨q, st₀, t, T', Lc, nm, ce, h0, X', hLc, e1, e2, hx, hce, hcv, hcl, go⟩
  · obtain ⟨v9, h2, hv, hQ, hP2, hF, hHB⟩ := hq
    cases hv
    have hS2 := (vx_keep h0 e1 hS (fun _ _ h => h) (fun _ h => h) hLc hF).2.2
    have Z := st_tight X'
    have hsz := (st_facts X' hz).1
    have hsp := st_split X' hz
    rw [← e1] at hP2 hHB
    obtain ⟨w1, w2, w3⟩ := hHB
    have hQ9 : RX l D AC b z L xs j (pc + 3) ls (v9.toList ++ st) h2 Q := hQ
    obtain ⟨t2, a1, b1⟩ := hQ9 p e R s m args below meth c QQ X E T'.heap (locs ++ Lc) lsR _ _ hP2 hS2 ⟨by omega, by omega, w3⟩ hL T' rfl Z
    refine ⟨t2, go t2 ?_, b1⟩
    have ef : ({ F0 m pc lsR st0 with pc := (F0 m pc lsR st0).pc + 3, stack := (v9.map (toV b z)).toList ++ st.map (toV b z) } : JFrame) = F0 m (pc + 3) lsR ((v9.toList ++ st).map (toV b z)) := by
      cases v9 <;> rfl
    rw [ef]
    exact a1
  · obtain ⟨Ec, h2, hE, hQ, hP2, hF, hHB⟩ := hx
    have hS2 := (vx_keep h0 e1 hS (fun _ _ h => h) (fun _ h => h) hLc hF).2.2
    have Z := st_tight X'
    have hsz := (st_facts X' hz).1
    have hsp := st_split X' hz
    rw [← e1] at hP2 hHB hce
    obtain ⟨w1, w2, w3⟩ := hHB
    have hB9 : Bg z L xs s h2 (T'.heap.size - s.heap.size) (Sz s.heap.size T'.heap) := ⟨by omega, by omega, w3⟩
    have hh := hHS Ec nm hE
    have hw : vx_W p l e R s m args below meth c T'.heap (locs ++ Lc) (T'.heap.size - s.heap.size) (Sz s.heap.size T'.heap) QQ (F0 m pc lsR (st.map (toV b z))) q := by
      unfold Q2 at hQ
      dsimp only at hQ
      cases hg : G.2.2 j pc Ec with
      | none =>
        rw [hg] at hQ hh
        exact E.2 Ec nm h2 T'.heap (locs ++ Lc) lsR _ _ pc _ q ce hQ hE hP2 hS2 hB9 hce hcv hcl hh
      | some o =>
        obtain ⟨npc, k⟩ := o
        rw [hg] at hQ hh
        have hQ8 : npc ≠ 0 ∧ RX l D AC b z L xs j npc (lSet1 ls k none) [] h2 Q := hQ
        obtain ⟨pre, x, suf, cnm, q1, q2, q3, q4, q5, q6, q7, q8⟩ := hh hQ8.1
        obtain ⟨hK, -, -, -, hCast, -, -, hNc, -⟩ := id X.2.2.2.2.2.2.2.2.2.1
        have htab : c.exceptionTable.toList = tableOf (mH j) := X.2.2.2.2.2.2.2.2.1
        refine vx_catch X.2.2.2.2.1 pre x suf (htab.trans q1) (fun y hy => ?_) q3 q4 (X.2.2.2.2.2.1 _ q5) (va_Nw.use rfl (hCast _ q6)) hce hcv hcl ?_
        · rcases q2 y hy with r1 | ⟨r1, nm9, r2, r3⟩
          · exact Or.inl r1
          · exact Or.inr ⟨r1, nm9, X.2.2.2.2.2.1 _ r2, hNc _ r3⟩
        · have hQ9 : RX l D AC b z L xs j npc (lSet1 ls k none) [] h2 Q := hQ8.2
          rcases q8 with ⟨k4, r1, r2, rfl⟩ | ⟨r2, rfl⟩
          · exact lv_astore_n X.1 X.2.1 r2 r1 (LR_has b z hL) q7 rfl (fun ls9 hl9 => hQ9 p e R s m args below meth c QQ X E T'.heap (locs ++ Lc) ls9 _ _ hP2 hS2 hB9 (LR_set1 b z (fun w hw => by cases hw) hl9))
          · exact lv_astore X.1 X.2.1 r2 (LR_has b z hL) q7 rfl (fun ls9 hl9 => hQ9 p e R s m args below meth c QQ X E T'.heap (locs ++ Lc) ls9 _ _ hP2 hS2 hB9 (LR_set1 b z (fun w hw => by cases hw) hl9))
    obtain ⟨t2, a1, b1⟩ := hw T' rfl Z
    exact ⟨t2, go.trans a1, b1⟩
theorem popA_spec : ∀ (n : Nat) (acc : List MV) (st : Sk) (as : List MV) (rest : Sk), popA n acc st = some (as, rest) → ∃ t : List MV, st = t ++ rest ∧ t.length = n ∧ as = t.reverse ++ acc
  | 0, acc, st, as, rest, h => by
    cases Option.some.inj h
    exact ⟨[], rfl, rfl, rfl⟩
  | n + 1, acc, [], as, rest, h => by cases h
  | n + 1, acc, v :: st, as, rest, h => by
    obtain ⟨t, h1, h2, h3⟩ := popA_spec n (v :: acc) st as rest h
    refine ⟨v :: t, by rw [h1]; rfl, by rw [List.length_cons, h2], ?_⟩
    rw [h3, List.reverse_cons, List.append_assoc]
    rfl
/-- what a call finds here: the callee's start, its words, the room -/
theorem call_pre {p : Program} {R : Room} {s : State} {m : MethodId} {args : Array Value} {meth : Method} {c : Code} (X : Ctx l D AC b z L xs j p R s m args meth c) {H : Heap} {locs : List Loc} (hS : va_S (Az z) s.heap H locs) (as : List MV) : FrameBlind (PcM D AC b z L xs as H) ∧ ∀ U : State, U.heap = H → s.WarmedH U.vm → PcM D AC b z L xs as H (as.map (toV b z)).toArray U := by
  have hz : z ≤ s.heap.size := X.2.2.2.2.2.2.2.2.2.2.1
  refine ⟨PcM_blind D AC b z L xs (Nat.le_trans hz hS.1), fun U hU hW => ⟨rfl, hU, ?_⟩⟩
  exact Env0.warm D AC b z L xs hW hz (fun q h1 h2 => by rw [hU]; exact hS.2.1 q h1 h2) X.2.2.2.2.2.2.2.2.2.1
theorem mWs_good {j2 : Nat} (hw : mCw j2 ∈ TBg) : ∀ w ∈ mWs j2, w ∈ TBg := by
  intro w h
  rcases List.mem_cons.mp h with rfl | h
  · exact hw
  · exact h
theorem mWs_pay {j2 : Nat} (hw : mCw j2 ∈ TBg) {s : State} {args : Array Value} (hts : ∀ w ∈ TBg, w.before args s = true) : ∀ w ∈ mWs j2, ∀ (a' : Array Value) (U : State), s.WarmedH U.vm → w.before a' U = true :=
  fun w h a' U hW => word_at hW (good_of_word (tb_good (mWs_good hw w h))) (hts w (mWs_good hw w h))
/-- what the tables say of a callee with no handlers -/
def CalOK (j j2 n : Nat) : Prop := MOK j2 ∧ mF j2 + 1 ≤ mF j ∧ 8 + (mL j2 + 11) + mW j2 ≤ mW j ∧ Cond.initialized (mY j2).cls ∈ TBg ∧ ((mY j2).cls ≠ "java/lang/invoke/MethodHandle" ∧ (mY j2).cls ≠ "java/lang/invoke/VarHandle") ∧ (parseMethodDescriptor (mY j2).desc).map (fun d => d.parameters.length) = some n
theorem par_len {y : MethodName} {n : Nat} (h : (parseMethodDescriptor y.desc).map (fun d => d.parameters.length) = some n) : ∀ sig, parseMethodDescriptor y.desc = some sig → n = sig.parameters.length := by
  intro sig hs
  rw [hs] at h
  exact (Option.some.inj h).symm
theorem HB_of {s : State} {h : Hp} {H : Heap} {cells slots : Nat} (hB : Bg z L xs s h cells slots) (f2 : H.size ≤ s.heap.size + cells) (f3 : Sz z H ≤ Sz z s.heap + slots) : HB z L xs H h := by
  obtain ⟨b1, b2, b3⟩ := hB
  exact ⟨by omega, by omega, b3⟩
theorem mCw_nil {j2 : Nat} (h : mH j2 = []) : mCw j2 = Cond.code (mY j2) (mC j2) (mL j2) (mR j2) := by unfold mCw; rw [h]
theorem mCw_cons {j2 : Nat} (h : mH j2 ≠ []) : mCw j2 = Cond.codeWith (mY j2) (mC j2) (mL j2) (mR j2) (mH j2) := by
  unfold mCw
  cases hm : mH j2 with
  | nil => exact absurd hm h
  | cons x r => rfl
end CALLS
