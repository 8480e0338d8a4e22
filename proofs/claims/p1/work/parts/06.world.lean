/-! M IS SOUND: what is shown of M is so of the machine -/
theorem tb_in {w : Cond} (i : Nat) (h : lw_tbl[i]? = some w) (g : goodWord w = true) : w ∈ TBg := List.mem_filter.mpr ⟨List.mem_of_getElem? h, g⟩
theorem tb_sub (ws : List Cond) (ps : List Nat) (hp : ws = ps.filterMap (fun i => lw_tbl[i]?)) (g : ws.all goodWord = true) : ∀ w ∈ ws, w ∈ TBg := fun w hw => List.mem_filter.mpr ⟨(goodIn_r ws ps hp g w hw).1, List.all_eq_true.mp g w hw⟩
theorem tb_good {w : Cond} (h : w ∈ TBg) : goodWord w = true := (List.mem_filter.mp h).2
/-- the slots of the cells from z on -/
def Sz (z : Nat) (H : Heap) : Nat := ((H.toList.drop z).map (·.slots.size)).sum
def Az (z : Nat) : Nat → Prop := fun q => z ≤ q
section FACTS
variable {p : Program} {l : Launch} {e : Env} {R : Room} {s : State} {m : MethodId} {args : Array Value} {below : List Frame} {meth : Method} {c : Code} {T : State} {H : Heap} {locs : List Loc} {cells slots : Nat} {Q : State → Prop}
theorem st_tight (X : Stand p l e R s m args below meth c T locs cells slots) : Stand p l e R s m args below meth c T locs (T.heap.size - s.heap.size) (Sz s.heap.size T.heap) := by
  have h1 : s.heap.size ≤ T.heap.size := X.same.2.1
  exact { X with same := ⟨X.same.1, X.same.2.1, (show T.heap.size ≤ s.heap.size + (T.heap.size - s.heap.size) by omega), X.same.2.2.2.1, Nat.le_refl _, X.same.2.2.2.2.2⟩ }
theorem st_split (X : Stand p l e R s m args below meth c T locs cells slots) {z : Nat} (hz : z ≤ s.heap.size) : Sz z T.heap = Sz z s.heap + Sz s.heap.size T.heap := by
  have h1 : s.heap.size ≤ T.heap.size := X.same.2.1
  have h6 : ∀ (a : Addr) (c9 : Cell), s.heap[a]? = some c9 → ∃ c', T.heap[a]? = some c' ∧ c'.slots.size = c9.slots.size := by
    intro a c9 h
    obtain ⟨c', g1, g2, g3, -⟩ := X.same.2.2.2.2.2 a c9 h
    exact ⟨c', g1, g3⟩
  have hm : (T.heap.toList.map (·.slots.size)).take s.heap.size = s.heap.toList.map (·.slots.size) := by
    apply List.ext_getElem?
    intro i
    by_cases hi : i < s.heap.size
    · rw [List.getElem?_take_of_lt hi, List.getElem?_map, List.getElem?_map, Array.getElem?_toList, Array.getElem?_toList]
      obtain ⟨c', g1, g2⟩ := h6 i _ (Array.getElem?_eq_getElem hi)
      rw [g1, Array.getElem?_eq_getElem hi]
      simp only [Option.map_some, Option.some.injEq]
      exact g2
    · rw [List.getElem?_eq_none (by rw [List.length_take]; omega), List.getElem?_eq_none (by rw [List.length_map, Array.length_toList]; omega)]
  unfold Sz
  rw [List.map_drop, List.map_drop, List.map_drop]
  have h2 : T.heap.toList.map (·.slots.size) = s.heap.toList.map (·.slots.size) ++ (T.heap.toList.map (·.slots.size)).drop s.heap.size := by
    rw [← hm, List.take_append_drop]
  have h3 : ((T.heap.toList.map (·.slots.size)).drop z) = (s.heap.toList.map (·.slots.size)).drop z ++ (T.heap.toList.map (·.slots.size)).drop s.heap.size := by
    conv => lhs; rw [h2]
    rw [List.drop_append_of_le_length (by rw [List.length_map, Array.length_toList]; exact hz)]
  rw [h3, List.sum_append]
theorem st_facts (X : Stand p l e R s m args below meth c T locs cells slots) {z : Nat} (hz : z ≤ s.heap.size) : s.heap.size ≤ T.heap.size ∧ T.heap.size ≤ s.heap.size + cells ∧ Sz z T.heap ≤ Sz z s.heap + slots := by
  have h1 : s.heap.size ≤ T.heap.size := X.same.2.1
  have h2 : T.heap.size ≤ s.heap.size + cells := X.same.2.2.1
  have h3 : Sz s.heap.size T.heap ≤ slots := X.same.2.2.2.2.1
  have h4 := st_split X hz
  exact ⟨h1, h2, by omega⟩
theorem w_facts {g : JFrame} {z : Nat} (hz : z ≤ s.heap.size) (k : s.heap.size ≤ H.size → H.size ≤ s.heap.size + cells → Sz z H ≤ Sz z s.heap + slots → W p l e R s m args below meth c H locs cells slots Q g) : W p l e R s m args below meth c H locs cells slots Q g := by
  intro T hT X
  obtain ⟨h1, h2, h3⟩ := st_facts X hz
  subst hT
  exact k h1 h2 h3 T rfl X
theorem x_facts {g : JFrame} {q : Addr} {z : Nat} (hz : z ≤ s.heap.size) (k : s.heap.size ≤ H.size → H.size ≤ s.heap.size + cells → Sz z H ≤ Sz z s.heap + slots → vx_W p l e R s m args below meth c H locs cells slots Q g q) : vx_W p l e R s m args below meth c H locs cells slots Q g q := by
  intro T hT X
  obtain ⟨h1, h2, h3⟩ := st_facts X hz
  subst hT
  exact k h1 h2 h3 T rfl X
end FACTS
section SOUND
variable (D : va_G) (AC : Nat → ClassId) (b : Nat × (Nat → Nat)) (z L : Nat) (xs : Nat → Int32)
def adr : Nat → Nat
  | 0 => b.1
  | k + 1 => if k < 1000000000 then z + k else b.2 (k - 1000000000)
theorem adr_s {k : Nat} (h : k < 1000000000) : adr b z (k + 1) = z + k := if_pos h
theorem adr_x {k : Nat} : adr b z (1000000001 + k) = b.2 k := by
  rw [show 1000000001 + k = (1000000000 + k) + 1 by omega]
  show (if 1000000000 + k < 1000000000 then z + (1000000000 + k) else b.2 (1000000000 + k - 1000000000)) = _
  rw [if_neg (by omega), Nat.add_sub_cancel_left]
def toV : MV → Value
  | .inl x => .int x
  | .inr (.inl r) => va_rf (r.map (adr b z))
  | .inr (.inr (.inl x)) => .long x
  | .inr (.inr (.inr x)) => .double x
theorem tvs {k : Nat} (h : k < 1000000000) : toV b z (.inr (.inl (some (k + 1)))) = .ref (z + k) := by
  show Value.ref (adr b z (k + 1)) = _
  rw [adr_s b z h]
def fV (h : Hp) (a ci k : Nat) : Value := match kF ci k with
  | 0 => .int (gI h a k)
  | 1 => va_rf ((gR h a k).map (adr b z))
  | 2 => .long (gL h a k)
  | _ => .double (gD h a k)
def kSz (ci : Nat) : Nat := ((kN[ci]?).map (fun q => q.2.2)).getD 0
def aV (h : Hp) (a t : Nat) : (Nat → Int32) ⊕ (Nat → Int64) ⊕ (Nat → UInt32) ⊕ (Nat → UInt64) ⊕ (Nat → Option Nat) := match kE t with
  | 0 => .inl (gI h a)
  | 1 => .inr (.inr (.inr (.inr (fun j => (gR h a j).map (adr b z)))))
  | 2 => .inr (.inl (gL h a))
  | _ => .inr (.inr (.inr (.inl (gD h a))))
def cE (h : Hp) (a : Nat) : va_E := if kd h a < 100 then .inr (kd h a, (List.range (kSz (kd h a))).map (fV b z h a (kd h a))) else .inl (AC (kd h a - 100), ln h a, aV b z h a (kd h a - 100))
/-- the world of a heap: the cells of the ids 1, 2, .. in their order -/
def wl (h : Hp) : va_W := (List.range (nx h - 1)).map (fun k => (z + k, cE AC b z h (k + 1)))
def tyL : List (ClassId × FieldType) := (List.range nA).map (fun t => (AC t, kA t))
theorem wl_get {h : Hp} {k : Nat} (hk : k + 1 < nx h) : (wl AC b z h)[k]? = some (z + k, cE AC b z h (k + 1)) := by
  unfold wl
  rw [List.getElem?_map, List.getElem?_range (by omega)]
  rfl
theorem wl_set {h h' : Hp} {k : Nat} {e' : va_E} (hk : k + 1 < nx h) (hn : nx h' = nx h) (he : cE AC b z h' (k + 1) = e') (ho : ∀ a, a ≠ k + 1 → cE AC b z h' a = cE AC b z h a) : (wl AC b z h).set k (z + k, e') = wl AC b z h' := by
  apply List.ext_getElem?
  intro i
  by_cases hi : i + 1 < nx h
  · rw [wl_get AC b z (h := h') (by rw [hn]; exact hi)]
    by_cases hik : i = k
    · subst hik
      rw [List.getElem?_set_self (by unfold wl; rw [List.length_map, List.length_range]; omega), he]
    · rw [List.getElem?_set_ne (fun q => hik q.symm), wl_get AC b z hi, ho (i + 1) (by omega)]
  · rw [List.getElem?_eq_none (by rw [List.length_set]; unfold wl; rw [List.length_map, List.length_range]; omega), List.getElem?_eq_none (by unfold wl; rw [List.length_map, List.length_range, hn]; omega)]
theorem wl_push {h h' : Hp} (h1 : 1 ≤ nx h) (hn : nx h' = nx h + 1) (ho : ∀ a, a < nx h → cE AC b z h' a = cE AC b z h a) : wl AC b z h' = wl AC b z h ++ [(z + (nx h - 1), cE AC b z h' (nx h))] := by
  apply List.ext_getElem?
  intro i
  have hlen : (wl AC b z h).length = nx h - 1 := by unfold wl; rw [List.length_map, List.length_range]
  rcases Nat.lt_trichotomy (i + 1) (nx h) with hi | hi | hi
  · rw [wl_get AC b z (h := h') (by omega), List.getElem?_append_left (by omega), wl_get AC b z hi, ho (i + 1) hi]
  · rw [wl_get AC b z (h := h') (by omega), List.getElem?_append_right (by omega), hlen, show i - (nx h - 1) = 0 by omega, show nx h - 1 = i by omega, hi]
    rfl
  · rw [List.getElem?_eq_none (by unfold wl; rw [List.length_map, List.length_range, hn]; omega), List.getElem?_eq_none (by rw [List.length_append, hlen]; simp; omega)]
theorem wl_D (h : Hp) : va_D (Az z) (wl AC b z h) := by
  have key : ∀ (k : Nat) (q : Nat × va_E), (wl AC b z h)[k]? = some q → q.1 = z + k := by
    intro k q hq
    have hk : k + 1 < nx h := by
      have := (List.getElem?_eq_some_iff.mp hq).1
      unfold wl at this
      rw [List.length_map, List.length_range] at this
      omega
    rw [wl_get AC b z hk] at hq
    rw [← Option.some.inj hq]
  refine ⟨fun i j p q hi hj hpq => ?_, fun k q hq => ?_⟩
  · have := key i p hi
    have := key j q hj
    omega
  · show z ≤ q.1
    rw [key k q hq]
    omega
theorem wl_size {h : Hp} {H : Heap} (hP : va_P D kN (wl AC b z h) H) (h1 : 1 ≤ nx h) (hz : z ≤ H.size) : z + nx h ≤ H.size + 1 := by
  by_cases h2 : nx h = 1
  · omega
  · have := (hP (nx h - 2) _ (wl_get AC b z (h := h) (k := nx h - 2) (by omega))).lt
    have e : z + (nx h - 2) < H.size := this
    omega
/-- locals that hold what M's locals say -/
def LR (ls : Lo) (lsR : Array Slot) (n : Nat) : Prop := lsR.size = n ∧ lv_wf lsR ∧ ∀ (k : Nat) (v : MV), ls[k]? = some (some v) → lsR[k]? = some (.val (toV b z v))
def lvl (ls : Lo) : List (Nat × Value) := (List.range ls.length).filterMap (fun k => match ls[k]? with
  | some (some v) => some (k, toV b z v)
  | _ => none)
theorem lvl_mem {ls : Lo} {q : Nat × Value} : q ∈ lvl b z ls ↔ ∃ v, ls[q.1]? = some (some v) ∧ q.2 = toV b z v := by
  unfold lvl
  rw [List.mem_filterMap]
  constructor
  · rintro ⟨k, hk, hq⟩
    cases h : ls[k]? with
    | none => rw [h] at hq; cases hq
    | some o =>
      cases o with
      | none => rw [h] at hq; cases hq
      | some v =>
        rw [h] at hq
        cases Option.some.inj hq
        exact ⟨v, h, rfl⟩
  · rintro ⟨v, hv, hq⟩
    refine ⟨q.1, List.mem_range.mpr (List.getElem?_eq_some_iff.mp hv).1, ?_⟩
    rw [hv]
    show some (q.1, toV b z v) = some q
    rw [← hq]
theorem LR_has {ls : Lo} {lsR : Array Slot} {n : Nat} (h : LR b z ls lsR n) : lv_has lsR n (lvl b z ls) := by
  refine ⟨h.1, h.2.1, fun q hq => ?_⟩
  obtain ⟨v, hv, e⟩ := (lvl_mem b z).mp hq
  rw [e]
  exact h.2.2 q.1 v hv
theorem cat_toV (v : MV) : (toV b z v).category = catV v := by
  rcases v with x | r | x | x
  · rfl
  · cases r <;> rfl
  · rfl
  · rfl
theorem lKill_at {ls : Lo} {i k : Nat} {v : MV} (h : (lKill ls i)[k]? = some (some v)) : ls[k]? = some (some v) ∧ ¬ (k + 1 = i ∧ isWide v = true) := by
  cases i with
  | zero => exact ⟨h, fun q => by omega⟩
  | succ j =>
    unfold lKill at h
    dsimp only at h
    cases hj : ls[j]? with
    | none =>
      rw [hj] at h
      dsimp only at h
      refine ⟨h, fun q => ?_⟩
      rw [show k = j by omega, hj] at h
      cases h
    | some o =>
      rw [hj] at h
      cases o with
      | none =>
        dsimp only at h
        refine ⟨h, fun q => ?_⟩
        rw [show k = j by omega, hj] at h
        cases Option.some.inj h
      | some w =>
        dsimp only at h
        by_cases hw : isWide w = true
        · rw [if_pos hw] at h
          by_cases hk : k = j
          · subst hk
            rw [List.getElem?_set_self (List.getElem?_eq_some_iff.mp hj).1] at h
            cases Option.some.inj h
          · rw [List.getElem?_set_ne (fun q => hk q.symm)] at h
            exact ⟨h, fun q => hk (by omega)⟩
        · rw [if_neg hw] at h
          refine ⟨h, fun q => ?_⟩
          rw [show k = j by omega, hj] at h
          cases Option.some.inj h
          exact hw q.2
theorem LR_set1 {ls : Lo} {lsR : Array Slot} {n i : Nat} {v : Value} {o : Option MV} (hv : ∀ w, o = some w → v = toV b z w) (h : lv_has lsR n ((i, v) :: (lvl b z ls).filter (fun q => !(q.1 == i) && !(q.1 + 1 == i && q.2.category == 2)))) : LR b z (lSet1 ls i o) lsR n := by
  refine ⟨h.1, h.2.1, fun k w hk => ?_⟩
  unfold lSet1 at hk
  by_cases hki : k = i
  · subst hki
    have hl := (List.getElem?_eq_some_iff.mp hk).1
    rw [List.length_set] at hl
    rw [List.getElem?_set_self hl] at hk
    rw [← hv w (Option.some.inj hk)]
    exact h.2.2 (k, v) List.mem_cons_self
  · rw [List.getElem?_set_ne (fun q => hki q.symm)] at hk
    obtain ⟨h1, h2⟩ := lKill_at hk
    refine h.2.2 (k, toV b z w) (List.mem_cons_of_mem _ (List.mem_filter.mpr ⟨(lvl_mem b z).mpr ⟨w, h1, rfl⟩, ?_⟩))
    simp only [Bool.and_eq_true, Bool.not_eq_true', beq_eq_false_iff_ne, ne_eq, Bool.and_eq_false_iff]
    refine ⟨hki, ?_⟩
    by_cases hk1 : k + 1 = i
    · right
      intro hc
      refine h2 ⟨hk1, ?_⟩
      rw [cat_toV] at hc
      unfold catV at hc
      cases hw : isWide w
      · rw [hw] at hc; cases hc
      · rfl
    · exact Or.inl hk1
theorem LR_set2 {ls : Lo} {lsR : Array Slot} {n i : Nat} {v : Value} {w0 : MV} (hv : v = toV b z w0) (h : lv_has lsR n ((i, v) :: (lvl b z ls).filter (fun q => !(q.1 == i) && (!(q.1 == i + 1) && !(q.1 + 1 == i && q.2.category == 2))))) : LR b z (lSet2 ls i w0) lsR n := by
  refine ⟨h.1, h.2.1, fun k w hk => ?_⟩
  unfold lSet2 at hk
  by_cases hki1 : k = i + 1
  · subst hki1
    have hl := (List.getElem?_eq_some_iff.mp hk).1
    rw [List.length_set] at hl
    rw [List.getElem?_set_self hl] at hk
    cases Option.some.inj hk
  · rw [List.getElem?_set_ne (fun q => hki1 q.symm)] at hk
    by_cases hki : k = i
    · subst hki
      have hl := (List.getElem?_eq_some_iff.mp hk).1
      rw [List.length_set] at hl
      rw [List.getElem?_set_self hl] at hk
      cases Option.some.inj (Option.some.inj hk)
      rw [← hv]
      exact h.2.2 (k, v) List.mem_cons_self
    · rw [List.getElem?_set_ne (fun q => hki q.symm)] at hk
      obtain ⟨h1, h2⟩ := lKill_at hk
      refine h.2.2 (k, toV b z w) (List.mem_cons_of_mem _ (List.mem_filter.mpr ⟨(lvl_mem b z).mpr ⟨w, h1, rfl⟩, ?_⟩))
      simp only [Bool.and_eq_true, Bool.not_eq_true', beq_eq_false_iff_ne, ne_eq, Bool.and_eq_false_iff]
      refine ⟨hki, hki1, ?_⟩
      by_cases hk1 : k + 1 = i
      · right
        intro hc
        refine h2 ⟨hk1, ?_⟩
        rw [cat_toV] at hc
        unfold catV at hc
        cases hw : isWide w
        · rw [hw] at hc; cases hc
        · rfl
      · exact Or.inl hk1
end SOUND
