/-! the calls' handlers are sound -/
section TIGHT
variable {p : Program} {l : Launch} {e : Env} {R : Room} {s : State} {m : MethodId} {args : Array Value} {below : List Frame} {meth : Method} {c : Code} {H : Heap} {locs : List Loc} {cells slots : Nat} {Q : State → Prop}
theorem w_tight {g : JFrame} {z : Nat} (hz : z ≤ s.heap.size) (k : s.heap.size ≤ H.size → H.size ≤ s.heap.size + cells → Sz z H ≤ Sz z s.heap + slots → Sz z H = Sz z s.heap + Sz s.heap.size H → W p l e R s m args below meth c H locs (H.size - s.heap.size) (Sz s.heap.size H) Q g) : W p l e R s m args below meth c H locs cells slots Q g := by
  intro T hT X
  obtain ⟨h1, h2, h3⟩ := st_facts X hz
  have h4 := st_split X hz
  subst hT
  exact k h1 h2 h3 h4 T rfl (st_tight X)
end TIGHT
section CALLOPS
variable (l : Launch) (D : va_G) (AC : Nat → ClassId) (b : Nat × (Nat → Nat)) (z L : Nat) (xs : Nat → Int32) (G : Pg) {j pc : Nat}
theorem stk_eq {st t rest : List MV} {as : List MV} (h1 : st = t ++ rest) (h3 : as = t.reverse ++ []) : st.map (toV b z) = (as.map (toV b z)).reverse ++ rest.map (toV b z) := by
  rw [h1, h3, List.append_nil, List.map_append, ← List.map_reverse, List.reverse_reverse]
theorem as_len {t : List MV} {as : List MV} {n : Nat} (h2 : t.length = n) (h3 : as = t.reverse ++ []) : (as.map (toV b z)).length = n := by
  rw [h3, List.append_nil, List.length_map, List.length_reverse, h2]
theorem call_room {R : Room} {pc : Nat} {m : MethodId} {lsR : Array Slot} {st : List Value} {rest : Sk} (h : catS rest ≤ 8) : 2 * (F0 m pc lsR st).monitorRoom + ((rest.map (toV b z)).map fun v => v.category).sum ≤ 8 := by
  rw [catS_sum]
  show 2 * 0 + catS rest ≤ 8
  omega
theorem sn_callV {ci j2 na idx N : Nat} {C : String} {T : u_T} (hd : decode (mC j) pc = .ok (.invokevirtual idx, 3)) (hG : G.2.1 j2 = mL j2) (hHS : HS G (j := j) (pc := pc)) (ok : CalOK j j2 na) (hh : mH j2 = []) (hc : kN[ci]? = some (C, T, N)) (h100 : ci < 100) (hC : (mY j2).cls = C)
    (w1 : Cond.methodLink (mO j) idx (mY j2) ∈ TBg) (w2 : Cond.instanceMethod (mY j2) ∈ TBg) (w3 : Cond.selects C (mY j2) (mY j2) ∈ TBg) : Snd l D AC b z L xs G j pc (oCallV ci j2 na (mL j2) (pc + 3)) := by
  intro ls st h Q kk p e R s m args below meth c QQ X E H locs lsR cells slots hP hS hB hL
  unfold oCallV at kk
  split at kk
  · rename_i as a rest hpop
    split at kk
    · rename_i hK
      obtain ⟨hK, hK3⟩ := and2 hK
      obtain ⟨hK, hK2⟩ := and2 hK
      obtain ⟨h2, h3⟩ := isK_spec hK
      obtain ⟨i, rfl⟩ := id_pos L xs hB.2.2 h3 h100
      have hcr : catS rest ≤ 8 := of_decide_eq_true hK2
      have hca : catS as < mL j2 := of_decide_eq_true hK3
      obtain ⟨t, p1, p2, p3⟩ := popA_spec na [] st as _ hpop
      have hz : z ≤ s.heap.size := X.2.2.2.2.2.2.2.2.2.2.1
      obtain ⟨g1, g2, g3, g4, g5⟩ := X.2.2.2.2.2.2.2.2.2.2.2
      obtain ⟨o1, o2, o3, o4, o5, o6⟩ := ok
      refine w_tight hz fun f1 f2 f3 f4 => ?_
      have hHB := HB_of z L xs hB f2 f3
      obtain ⟨y1, y2, y3, y4, -⟩ := id hHB
      have he := wl_get AC b z h2
      rw [cE_obj AC b z hc h3 h100] at he
      have kk9 : RX l D AC b z L xs j2 0 (entL (.inr (.inl (some (i + 1))) :: as) (mL j2)) [] h (Q2 G (j := j) (pc := pc) (RX l D AC b z L xs) (pc + 3) ls rest Q) := by rw [← hG]; exact kk
      have hcat : catS (.inr (.inl (some (i + 1))) :: as) ≤ mL j2 := by
        show catV _ + catS as ≤ mL j2
        show 1 + catS as ≤ mL j2
        omega
      have hM := met_of l D AC b z L xs o1 g5 hcat kk9 hP hHB (Nat.le_trans hz f1)
      obtain ⟨q1, q2⟩ := call_pre l D AC b z L xs X hS (.inr (.inl (some (i + 1))) :: as)
      have hlo := id_low L xs hB.2.2 h2
      have hst := stk_eq b z p1 p3
      simp only [List.map_cons, tvs b z hlo] at q2 hst
      have hrun := vx_runV (Ts := TBg) (own := mO j) (index := idx) (C := C) (b := z + i) (As := as.map (toV b z)) (rest := rest.map (toV b z)) (bytes := mC j2) (maxL := mL j2) (ret := mR j2) (n := na) (nL := mL j) (cells := H.size - s.heap.size) (slots := Sz s.heap.size H) (below := below) (meth := meth) (locs := locs) (e := e) (R := R) (H := H) (g := F0 m pc lsR (st.map (toV b z))) ⟨X.1, X.2.1, X.2.2.2.1, X.2.2.2.2.1, X.2.2.2.2.2.1⟩ hM
        ⟨⟨rfl, rfl, Nat.le_trans o2 g1, Nat.le_trans o3 g2, mWs_pay o1.2.2 X.2.2.2.2.2.1, by rw [← mCw_nil hh]; exact List.mem_cons_self, by rw [← mCw_nil hh]; exact X.2.2.2.2.2.1 _ o1.2.2, X.2.2.2.2.2.1 _ o4, o5, par_len o6, X.2.2.2.2.2.1 _ w1⟩, X.2.2.2.2.2.1 _ w2, X.2.2.2.2.2.1 _ w3⟩
        ⟨q1, va_recv (D := D) X.2.2.2.2.2.2.2.2.2.1.1 hP hc he, q2⟩ rfl (as_len b z p2 p3) hL.1 hst (call_room (R := R) b z hcr) hd ⟨by show _ + (z + cM - H.size) ≤ _; omega, by show _ + (sM - Sz z H) ≤ _; omega⟩
      exact call_go l D AC b z L xs G hHS X E hS hL hrun
    · exact kk.elim
  · exact kk.elim
theorem sn_callI {ci j2 na idx N : Nat} {C : String} {T : u_T} (hd : decode (mC j) pc = .ok (.invokespecial idx, 3)) (hG : G.2.1 j2 = mL j2) (hHS : HS G (j := j) (pc := pc)) (ok : CalOK j j2 na) (hh : mH j2 = []) (hc : kN[ci]? = some (C, T, N)) (h100 : ci < 100) (hr : mR j2 = none) (hi : (mY j2).name = "<init>")
    (w1 : Cond.methodLink (mO j) idx (mY j2) ∈ TBg) (w2 : Cond.instanceMethod (mY j2) ∈ TBg) : Snd l D AC b z L xs G j pc (oCallV ci j2 na (mL j2) (pc + 3)) := by
  intro ls st h Q kk p e R s m args below meth c QQ X E H locs lsR cells slots hP hS hB hL
  unfold oCallV at kk
  split at kk
  · rename_i as a rest hpop
    split at kk
    · rename_i hK
      obtain ⟨hK, hK3⟩ := and2 hK
      obtain ⟨hK, hK2⟩ := and2 hK
      obtain ⟨h2, h3⟩ := isK_spec hK
      obtain ⟨i, rfl⟩ := id_pos L xs hB.2.2 h3 h100
      have hcr : catS rest ≤ 8 := of_decide_eq_true hK2
      have hca : catS as < mL j2 := of_decide_eq_true hK3
      obtain ⟨t, p1, p2, p3⟩ := popA_spec na [] st as _ hpop
      have hz : z ≤ s.heap.size := X.2.2.2.2.2.2.2.2.2.2.1
      obtain ⟨g1, g2, g3, g4, g5⟩ := X.2.2.2.2.2.2.2.2.2.2.2
      obtain ⟨o1, o2, o3, o4, o5, o6⟩ := ok
      refine w_tight hz fun f1 f2 f3 f4 => ?_
      have hHB := HB_of z L xs hB f2 f3
      obtain ⟨y1, y2, y3, y4, -⟩ := id hHB
      have kk9 : RX l D AC b z L xs j2 0 (entL (.inr (.inl (some (i + 1))) :: as) (mL j2)) [] h (Q2 G (j := j) (pc := pc) (RX l D AC b z L xs) (pc + 3) ls rest Q) := by rw [← hG]; exact kk
      have hcat : catS (.inr (.inl (some (i + 1))) :: as) ≤ mL j2 := by
        show catV _ + catS as ≤ mL j2
        show 1 + catS as ≤ mL j2
        omega
      have hM := met_of l D AC b z L xs o1 g5 hcat kk9 hP hHB (Nat.le_trans hz f1)
      obtain ⟨q1, q2⟩ := call_pre l D AC b z L xs X hS (.inr (.inl (some (i + 1))) :: as)
      have hlo := id_low L xs hB.2.2 h2
      have hst := stk_eq b z p1 p3
      simp only [List.map_cons, tvs b z hlo] at q2 hst
      have hcw : mCw j2 = Cond.code (mY j2) (mC j2) (mL j2) none := by rw [mCw_nil hh, hr]
      have hrun := vx_runI (Ts := TBg) (own := mO j) (index := idx) (b := z + i) (As := as.map (toV b z)) (rest := rest.map (toV b z)) (bytes := mC j2) (maxL := mL j2) (n := na) (nL := mL j) (cells := H.size - s.heap.size) (slots := Sz s.heap.size H) (below := below) (meth := meth) (locs := locs) (e := e) (R := R) (H := H) (g := F0 m pc lsR (st.map (toV b z))) ⟨X.1, X.2.1, X.2.2.2.1, X.2.2.2.2.1, X.2.2.2.2.2.1⟩ hM
        ⟨⟨rfl, rfl, Nat.le_trans o2 g1, Nat.le_trans o3 g2, mWs_pay o1.2.2 X.2.2.2.2.2.1, by rw [← hcw]; exact List.mem_cons_self, by rw [← hcw]; exact X.2.2.2.2.2.1 _ o1.2.2, X.2.2.2.2.2.1 _ o4, o5, par_len o6, X.2.2.2.2.2.1 _ w1⟩, hi, X.2.2.2.2.2.1 _ w2⟩
        ⟨q1, q2⟩ rfl (as_len b z p2 p3) hL.1 hst (call_room (R := R) b z hcr) hd ⟨by show _ + (z + cM - H.size) ≤ _; omega, by show _ + (sM - Sz z H) ≤ _; omega⟩
      exact call_go l D AC b z L xs G hHS X E hS hL hrun
    · exact kk.elim
  · exact kk.elim
theorem sn_callIN {ci j2 na idx N : Nat} {C host : String} {T : u_T} (hd : decode (mC j) pc = .ok (.invokespecial idx, 3)) (hG : G.2.1 j2 = mL j2) (hHS : HS G (j := j) (pc := pc)) (ok : CalOK j j2 na) (hh : mH j2 = []) (hc : kN[ci]? = some (C, T, N)) (h100 : ci < 100) (hr : mR j2 = none) (hi : (mY j2).name = "<init>")
    (w1 : (mO j, idx, mY j2, host) ∈ kNest) (w2 : Cond.instanceMethod (mY j2) ∈ TBg) : Snd l D AC b z L xs G j pc (oCallV ci j2 na (mL j2) (pc + 3)) := by
  intro ls st h Q kk p e R s m args below meth c QQ X E H locs lsR cells slots hP hS hB hL
  unfold oCallV at kk
  split at kk
  · rename_i as a rest hpop
    split at kk
    · rename_i hK
      obtain ⟨hK, hK3⟩ := and2 hK
      obtain ⟨hK, hK2⟩ := and2 hK
      obtain ⟨h2, h3⟩ := isK_spec hK
      obtain ⟨i, rfl⟩ := id_pos L xs hB.2.2 h3 h100
      have hcr : catS rest ≤ 8 := of_decide_eq_true hK2
      have hca : catS as < mL j2 := of_decide_eq_true hK3
      obtain ⟨t, p1, p2, p3⟩ := popA_spec na [] st as _ hpop
      have hz : z ≤ s.heap.size := X.2.2.2.2.2.2.2.2.2.2.1
      obtain ⟨g1, g2, g3, g4, g5⟩ := X.2.2.2.2.2.2.2.2.2.2.2
      obtain ⟨o1, o2, o3, o4, o5, o6⟩ := ok
      refine w_tight hz fun f1 f2 f3 f4 => ?_
      have hHB := HB_of z L xs hB f2 f3
      obtain ⟨y1, y2, y3, y4, -⟩ := id hHB
      have kk9 : RX l D AC b z L xs j2 0 (entL (.inr (.inl (some (i + 1))) :: as) (mL j2)) [] h (Q2 G (j := j) (pc := pc) (RX l D AC b z L xs) (pc + 3) ls rest Q) := by rw [← hG]; exact kk
      have hcat : catS (.inr (.inl (some (i + 1))) :: as) ≤ mL j2 := by
        show catV _ + catS as ≤ mL j2
        show 1 + catS as ≤ mL j2
        omega
      have hM := met_of l D AC b z L xs o1 g5 hcat kk9 hP hHB (Nat.le_trans hz f1)
      obtain ⟨q1, q2⟩ := call_pre l D AC b z L xs X hS (.inr (.inl (some (i + 1))) :: as)
      have hlo := id_low L xs hB.2.2 h2
      have hst := stk_eq b z p1 p3
      simp only [List.map_cons, tvs b z hlo] at q2 hst
      have hcw : mCw j2 = Cond.code (mY j2) (mC j2) (mL j2) none := by rw [mCw_nil hh, hr]
      have hne := X.2.2.2.2.2.2.2.2.2.1.2.2.2.1 _ w1
      have hrun := vx_runIN (Ts := TBg) (own := mO j) (index := idx) (host := host) (b := z + i) (As := as.map (toV b z)) (rest := rest.map (toV b z)) (bytes := mC j2) (maxL := mL j2) (n := na) (nL := mL j) (cells := H.size - s.heap.size) (slots := Sz s.heap.size H) (below := below) (meth := meth) (locs := locs) (e := e) (R := R) (H := H) (g := F0 m pc lsR (st.map (toV b z))) ⟨X.1, X.2.1, X.2.2.2.1, X.2.2.2.2.1, X.2.2.2.2.2.1⟩ hM
        ⟨⟨⟨rfl, rfl, Nat.le_trans o2 g1, Nat.le_trans o3 g2, mWs_pay o1.2.2 X.2.2.2.2.2.1, by rw [← hcw]; exact List.mem_cons_self⟩, by rw [← hcw]; exact X.2.2.2.2.2.1 _ o1.2.2, X.2.2.2.2.2.1 _ o4, o5, par_len o6, va_Nw.use rfl hne⟩, hi, X.2.2.2.2.2.1 _ w2⟩
        ⟨q1, q2⟩ rfl (as_len b z p2 p3) hL.1 hst (call_room (R := R) b z hcr) hd ⟨by show _ + (z + cM - H.size) ≤ _; omega, by show _ + (sM - Sz z H) ≤ _; omega⟩
      exact call_go l D AC b z L xs G hHS X E hS hL hrun
    · exact kk.elim
  · exact kk.elim
theorem sn_callS {j2 na idx : Nat} (hd : decode (mC j) pc = .ok (.invokestatic idx, 3)) (hG : G.2.1 j2 = mL j2) (hHS : HS G (j := j) (pc := pc)) (ok : CalOK j j2 na) (hh : mH j2 = [])
    (w1 : Cond.methodLink (mO j) idx (mY j2) ∈ TBg) (w2 : Cond.static (mY j2) ∈ TBg) : Snd l D AC b z L xs G j pc (oCallS j2 na (mL j2) (pc + 3)) := by
  intro ls st h Q kk p e R s m args below meth c QQ X E H locs lsR cells slots hP hS hB hL
  unfold oCallS at kk
  split at kk
  · rename_i as rest hpop
    split at kk
    · rename_i hK
      obtain ⟨hK2, hK3⟩ := and2 hK
      have hcr : catS rest ≤ 8 := of_decide_eq_true hK2
      have hcat : catS as ≤ mL j2 := of_decide_eq_true hK3
      obtain ⟨t, p1, p2, p3⟩ := popA_spec na [] st as _ hpop
      have hz : z ≤ s.heap.size := X.2.2.2.2.2.2.2.2.2.2.1
      obtain ⟨g1, g2, g3, g4, g5⟩ := X.2.2.2.2.2.2.2.2.2.2.2
      obtain ⟨o1, o2, o3, o4, o5, o6⟩ := ok
      refine w_tight hz fun f1 f2 f3 f4 => ?_
      have hHB := HB_of z L xs hB f2 f3
      obtain ⟨y1, y2, y3, y4, -⟩ := id hHB
      have kk9 : RX l D AC b z L xs j2 0 (entL as (mL j2)) [] h (Q2 G (j := j) (pc := pc) (RX l D AC b z L xs) (pc + 3) ls rest Q) := by rw [← hG]; exact kk
      have hM := met_of l D AC b z L xs o1 g5 hcat kk9 hP hHB (Nat.le_trans hz f1)
      have hrun := vx_runS (Ts := TBg) (own := mO j) (index := idx) (As := as.map (toV b z)) (rest := rest.map (toV b z)) (bytes := mC j2) (maxL := mL j2) (ret := mR j2) (n := na) (nL := mL j) (cells := H.size - s.heap.size) (slots := Sz s.heap.size H) (below := below) (meth := meth) (locs := locs) (e := e) (R := R) (H := H) (g := F0 m pc lsR (st.map (toV b z))) ⟨X.1, X.2.1, X.2.2.2.1, X.2.2.2.2.1, X.2.2.2.2.2.1⟩ hM
        ⟨⟨rfl, rfl, Nat.le_trans o2 g1, Nat.le_trans o3 g2, mWs_pay o1.2.2 X.2.2.2.2.2.1, by rw [← mCw_nil hh]; exact List.mem_cons_self, by rw [← mCw_nil hh]; exact X.2.2.2.2.2.1 _ o1.2.2, X.2.2.2.2.2.1 _ o4, o5, par_len o6, X.2.2.2.2.2.1 _ w1⟩, X.2.2.2.2.2.1 _ w2⟩
        (call_pre l D AC b z L xs X hS as) rfl (as_len b z p2 p3) hL.1 (stk_eq b z p1 p3) (call_room (R := R) b z hcr) hd ⟨by show _ + (z + cM - H.size) ≤ _; omega, by show _ + (sM - Sz z H) ≤ _; omega⟩
      exact call_go l D AC b z L xs G hHS X E hS hL hrun
    · exact kk.elim
  · exact kk.elim
theorem sn_callSN {j2 na idx : Nat} {host : String} (hd : decode (mC j) pc = .ok (.invokestatic idx, 3)) (hG : G.2.1 j2 = mL j2) (hHS : HS G (j := j) (pc := pc)) (ok : CalOK j j2 na) (hh : mH j2 = [])
    (w1 : (mO j, idx, mY j2, host) ∈ kNest) (w2 : Cond.static (mY j2) ∈ TBg) : Snd l D AC b z L xs G j pc (oCallS j2 na (mL j2) (pc + 3)) := by
  intro ls st h Q kk p e R s m args below meth c QQ X E H locs lsR cells slots hP hS hB hL
  unfold oCallS at kk
  split at kk
  · rename_i as rest hpop
    split at kk
    · rename_i hK
      obtain ⟨hK2, hK3⟩ := and2 hK
      have hcr : catS rest ≤ 8 := of_decide_eq_true hK2
      have hcat : catS as ≤ mL j2 := of_decide_eq_true hK3
      obtain ⟨t, p1, p2, p3⟩ := popA_spec na [] st as _ hpop
      have hz : z ≤ s.heap.size := X.2.2.2.2.2.2.2.2.2.2.1
      obtain ⟨g1, g2, g3, g4, g5⟩ := X.2.2.2.2.2.2.2.2.2.2.2
      obtain ⟨o1, o2, o3, o4, o5, o6⟩ := ok
      refine w_tight hz fun f1 f2 f3 f4 => ?_
      have hHB := HB_of z L xs hB f2 f3
      obtain ⟨y1, y2, y3, y4, -⟩ := id hHB
      have kk9 : RX l D AC b z L xs j2 0 (entL as (mL j2)) [] h (Q2 G (j := j) (pc := pc) (RX l D AC b z L xs) (pc + 3) ls rest Q) := by rw [← hG]; exact kk
      have hM := met_of l D AC b z L xs o1 g5 hcat kk9 hP hHB (Nat.le_trans hz f1)
      have hne := X.2.2.2.2.2.2.2.2.2.1.2.2.2.1 _ w1
      have hrun := vx_runSN (Ts := TBg) (own := mO j) (index := idx) (host := host) (As := as.map (toV b z)) (rest := rest.map (toV b z)) (bytes := mC j2) (maxL := mL j2) (ret := mR j2) (n := na) (nL := mL j) (cells := H.size - s.heap.size) (slots := Sz s.heap.size H) (below := below) (meth := meth) (locs := locs) (e := e) (R := R) (H := H) (g := F0 m pc lsR (st.map (toV b z))) ⟨X.1, X.2.1, X.2.2.2.1, X.2.2.2.2.1, X.2.2.2.2.2.1⟩ hM
        ⟨⟨⟨rfl, rfl, Nat.le_trans o2 g1, Nat.le_trans o3 g2, mWs_pay o1.2.2 X.2.2.2.2.2.1, by rw [← mCw_nil hh]; exact List.mem_cons_self⟩, by rw [← mCw_nil hh]; exact X.2.2.2.2.2.1 _ o1.2.2, X.2.2.2.2.2.1 _ o4, o5, par_len o6, va_Nw.use rfl hne⟩, X.2.2.2.2.2.1 _ w2, trivial⟩
        (call_pre l D AC b z L xs X hS as) rfl (as_len b z p2 p3) hL.1 (stk_eq b z p1 p3) (call_room (R := R) b z hcr) hd ⟨by show _ + (z + cM - H.size) ≤ _; omega, by show _ + (sM - Sz z H) ≤ _; omega⟩
      exact call_go l D AC b z L xs G hHS X E hS hL hrun
    · exact kk.elim
  · exact kk.elim
theorem sn_callSX {j2 na idx : Nat} (hd : decode (mC j) pc = .ok (.invokestatic idx, 3)) (hG : G.2.1 j2 = mL j2) (hHS : HS G (j := j) (pc := pc)) (ok : CalOK j j2 na) (hh : mH j2 ≠ [])
    (w1 : Cond.methodLink (mO j) idx (mY j2) ∈ TBg) (w2 : Cond.static (mY j2) ∈ TBg) : Snd l D AC b z L xs G j pc (oCallS j2 na (mL j2) (pc + 3)) := by
  intro ls st h Q kk p e R s m args below meth c QQ X E H locs lsR cells slots hP hS hB hL
  unfold oCallS at kk
  split at kk
  · rename_i as rest hpop
    split at kk
    · rename_i hK
      obtain ⟨hK2, hK3⟩ := and2 hK
      have hcr : catS rest ≤ 8 := of_decide_eq_true hK2
      have hcat : catS as ≤ mL j2 := of_decide_eq_true hK3
      obtain ⟨t, p1, p2, p3⟩ := popA_spec na [] st as _ hpop
      have hz : z ≤ s.heap.size := X.2.2.2.2.2.2.2.2.2.2.1
      obtain ⟨g1, g2, g3, g4, g5⟩ := X.2.2.2.2.2.2.2.2.2.2.2
      obtain ⟨o1, o2, o3, o4, o5, o6⟩ := ok
      refine w_tight hz fun f1 f2 f3 f4 => ?_
      have hHB := HB_of z L xs hB f2 f3
      obtain ⟨y1, y2, y3, y4, -⟩ := id hHB
      have kk9 : RX l D AC b z L xs j2 0 (entL as (mL j2)) [] h (Q2 G (j := j) (pc := pc) (RX l D AC b z L xs) (pc + 3) ls rest Q) := by rw [← hG]; exact kk
      have hM := met_of l D AC b z L xs o1 g5 hcat kk9 hP hHB (Nat.le_trans hz f1)
      have hrun := vx_runSX (Ts := TBg) (own := mO j) (index := idx) (As := as.map (toV b z)) (rest := rest.map (toV b z)) (bytes := mC j2) (maxL := mL j2) (ret := mR j2) (hh := mH j2) (n := na) (nL := mL j) (cells := H.size - s.heap.size) (slots := Sz s.heap.size H) (below := below) (meth := meth) (locs := locs) (e := e) (R := R) (H := H) (g := F0 m pc lsR (st.map (toV b z))) ⟨X.1, X.2.1, X.2.2.2.1, X.2.2.2.2.1, X.2.2.2.2.2.1⟩ hM
        ⟨⟨rfl, rfl, Nat.le_trans o2 g1, Nat.le_trans o3 g2, mWs_pay o1.2.2 X.2.2.2.2.2.1, by rw [← mCw_cons hh]; exact List.mem_cons_self⟩, by rw [← mCw_cons hh]; exact X.2.2.2.2.2.1 _ o1.2.2, X.2.2.2.2.2.1 _ o4, o5, par_len o6, X.2.2.2.2.2.1 _ w1, X.2.2.2.2.2.1 _ w2⟩
        (call_pre l D AC b z L xs X hS as) rfl (as_len b z p2 p3) hL.1 (stk_eq b z p1 p3) (call_room (R := R) b z hcr) hd ⟨by show _ + (z + cM - H.size) ≤ _; omega, by show _ + (sM - Sz z H) ≤ _; omega⟩
      exact call_go l D AC b z L xs G hHS X E hS hL hrun
    · exact kk.elim
  · exact kk.elim
end CALLOPS
