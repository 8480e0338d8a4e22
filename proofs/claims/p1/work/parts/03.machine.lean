/-! THE SMALL MACHINE M: values, a heap of functions, frames, handlers, the least predicate closed under the steps -/
/-- a value: an int, a reference (none: null; some id), a long, a double -/
abbrev MV : Type := Int32 ⊕ (Option Nat ⊕ (Int64 ⊕ UInt64))
/-- the heap: ints, references, longs, doubles by id and slot; the kind and the length by id; the next id; the slots laid so far -/
def Hp : Type := (Nat → Nat → Int32) × (Nat → Nat → Option Nat) × (Nat → Nat → Int64) × (Nat → Nat → UInt64) × (Nat → Nat) × (Nat → Nat) × Nat × Nat
def gI (h : Hp) (a k : Nat) : Int32 := h.1 a k
def gR (h : Hp) (a k : Nat) : Option Nat := h.2.1 a k
def gL (h : Hp) (a k : Nat) : Int64 := h.2.2.1 a k
def gD (h : Hp) (a k : Nat) : UInt64 := h.2.2.2.1 a k
def kd (h : Hp) (a : Nat) : Nat := h.2.2.2.2.1 a
def ln (h : Hp) (a : Nat) : Nat := h.2.2.2.2.2.1 a
def nx (h : Hp) : Nat := h.2.2.2.2.2.2.1
def sc (h : Hp) : Nat := h.2.2.2.2.2.2.2
def up2 {α : Type} (f : Nat → Nat → α) (a k : Nat) (v : α) : Nat → Nat → α := fun b j => if b = a ∧ j = k then v else f b j
def up1 {α : Type} (f : Nat → α) (a : Nat) (v : α) : Nat → α := fun b => if b = a then v else f b
def row0 {α : Type} (f : Nat → Nat → α) (a : Nat) (v : α) : Nat → Nat → α := fun b j => if b = a then v else f b j
def sI (h : Hp) (a k : Nat) (v : Int32) : Hp := (up2 h.1 a k v, h.2)
def sR (h : Hp) (a k : Nat) (v : Option Nat) : Hp := (h.1, up2 h.2.1 a k v, h.2.2)
def sL (h : Hp) (a k : Nat) (v : Int64) : Hp := (h.1, h.2.1, up2 h.2.2.1 a k v, h.2.2.2)
def sD (h : Hp) (a k : Nat) (v : UInt64) : Hp := (h.1, h.2.1, h.2.2.1, up2 h.2.2.2.1 a k v, h.2.2.2.2)
/-- a new object or array: kind c, length n, all its slots empty -/
def hN (h : Hp) (c n s : Nat) : Hp := (row0 h.1 (nx h) 0, row0 h.2.1 (nx h) none, row0 h.2.2.1 (nx h) 0, row0 h.2.2.2.1 (nx h) 0, up1 h.2.2.2.2.1 (nx h) c, up1 h.2.2.2.2.2.1 (nx h) n, nx h + 1, sc h + s)
theorem gI_sI (h : Hp) (a k b j : Nat) (v : Int32) : gI (sI h a k v) b j = if b = a ∧ j = k then v else gI h b j := rfl
theorem gI_sR (h : Hp) (a k b j : Nat) (v : Option Nat) : gI (sR h a k v) b j = gI h b j := rfl
theorem gI_sL (h : Hp) (a k b j : Nat) (v : Int64) : gI (sL h a k v) b j = gI h b j := rfl
theorem gI_sD (h : Hp) (a k b j : Nat) (v : UInt64) : gI (sD h a k v) b j = gI h b j := rfl
theorem gR_sI (h : Hp) (a k b j : Nat) (v : Int32) : gR (sI h a k v) b j = gR h b j := rfl
theorem gR_sR (h : Hp) (a k b j : Nat) (v : Option Nat) : gR (sR h a k v) b j = if b = a ∧ j = k then v else gR h b j := rfl
theorem gR_sL (h : Hp) (a k b j : Nat) (v : Int64) : gR (sL h a k v) b j = gR h b j := rfl
theorem gR_sD (h : Hp) (a k b j : Nat) (v : UInt64) : gR (sD h a k v) b j = gR h b j := rfl
theorem gL_sI (h : Hp) (a k b j : Nat) (v : Int32) : gL (sI h a k v) b j = gL h b j := rfl
theorem gL_sR (h : Hp) (a k b j : Nat) (v : Option Nat) : gL (sR h a k v) b j = gL h b j := rfl
theorem gL_sL (h : Hp) (a k b j : Nat) (v : Int64) : gL (sL h a k v) b j = if b = a ∧ j = k then v else gL h b j := rfl
theorem gL_sD (h : Hp) (a k b j : Nat) (v : UInt64) : gL (sD h a k v) b j = gL h b j := rfl
theorem gD_sI (h : Hp) (a k b j : Nat) (v : Int32) : gD (sI h a k v) b j = gD h b j := rfl
theorem gD_sR (h : Hp) (a k b j : Nat) (v : Option Nat) : gD (sR h a k v) b j = gD h b j := rfl
theorem gD_sL (h : Hp) (a k b j : Nat) (v : Int64) : gD (sL h a k v) b j = gD h b j := rfl
theorem gD_sD (h : Hp) (a k b j : Nat) (v : UInt64) : gD (sD h a k v) b j = if b = a ∧ j = k then v else gD h b j := rfl
theorem kd_sI (h : Hp) (a k b : Nat) (v : Int32) : kd (sI h a k v) b = kd h b := rfl
theorem kd_sR (h : Hp) (a k b : Nat) (v : Option Nat) : kd (sR h a k v) b = kd h b := rfl
theorem kd_sL (h : Hp) (a k b : Nat) (v : Int64) : kd (sL h a k v) b = kd h b := rfl
theorem kd_sD (h : Hp) (a k b : Nat) (v : UInt64) : kd (sD h a k v) b = kd h b := rfl
theorem ln_sI (h : Hp) (a k b : Nat) (v : Int32) : ln (sI h a k v) b = ln h b := rfl
theorem ln_sR (h : Hp) (a k b : Nat) (v : Option Nat) : ln (sR h a k v) b = ln h b := rfl
theorem ln_sL (h : Hp) (a k b : Nat) (v : Int64) : ln (sL h a k v) b = ln h b := rfl
theorem ln_sD (h : Hp) (a k b : Nat) (v : UInt64) : ln (sD h a k v) b = ln h b := rfl
theorem nx_sI (h : Hp) (a k : Nat) (v : Int32) : nx (sI h a k v) = nx h := rfl
theorem nx_sR (h : Hp) (a k : Nat) (v : Option Nat) : nx (sR h a k v) = nx h := rfl
theorem nx_sL (h : Hp) (a k : Nat) (v : Int64) : nx (sL h a k v) = nx h := rfl
theorem nx_sD (h : Hp) (a k : Nat) (v : UInt64) : nx (sD h a k v) = nx h := rfl
theorem sc_sI (h : Hp) (a k : Nat) (v : Int32) : sc (sI h a k v) = sc h := rfl
theorem sc_sR (h : Hp) (a k : Nat) (v : Option Nat) : sc (sR h a k v) = sc h := rfl
theorem sc_sL (h : Hp) (a k : Nat) (v : Int64) : sc (sL h a k v) = sc h := rfl
theorem sc_sD (h : Hp) (a k : Nat) (v : UInt64) : sc (sD h a k v) = sc h := rfl
theorem gI_hN (h : Hp) (c n s b j : Nat) : gI (hN h c n s) b j = if b = nx h then 0 else gI h b j := rfl
theorem gR_hN (h : Hp) (c n s b j : Nat) : gR (hN h c n s) b j = if b = nx h then none else gR h b j := rfl
theorem gL_hN (h : Hp) (c n s b j : Nat) : gL (hN h c n s) b j = if b = nx h then 0 else gL h b j := rfl
theorem gD_hN (h : Hp) (c n s b j : Nat) : gD (hN h c n s) b j = if b = nx h then 0 else gD h b j := rfl
theorem kd_hN (h : Hp) (c n s b : Nat) : kd (hN h c n s) b = if b = nx h then c else kd h b := rfl
theorem ln_hN (h : Hp) (c n s b : Nat) : ln (hN h c n s) b = if b = nx h then n else ln h b := rfl
theorem nx_hN (h : Hp) (c n s : Nat) : nx (hN h c n s) = nx h + 1 := rfl
theorem sc_hN (h : Hp) (c n s : Nat) : sc (hN h c n s) = sc h + s := rfl
/-- a live id of kind c -/
def isK (h : Hp) (a c : Nat) : Bool := decide (a < nx h) && decide (kd h a = c)
/-- an index in an array's length -/
def inL (h : Hp) (a : Nat) (i : Int32) : Bool := decide (0 ≤ i) && decide (i.toNatClampNeg < ln h a)
theorem isK_sI (h : Hp) (a k b c : Nat) (v : Int32) : isK (sI h a k v) b c = isK h b c := rfl
theorem isK_sR (h : Hp) (a k b c : Nat) (v : Option Nat) : isK (sR h a k v) b c = isK h b c := rfl
theorem isK_sL (h : Hp) (a k b c : Nat) (v : Int64) : isK (sL h a k v) b c = isK h b c := rfl
theorem isK_sD (h : Hp) (a k b c : Nat) (v : UInt64) : isK (sD h a k v) b c = isK h b c := rfl
theorem inL_sI (h : Hp) (a k b : Nat) (v i : Int32) : inL (sI h a k v) b i = inL h b i := rfl
theorem inL_sR (h : Hp) (a k b : Nat) (v : Option Nat) (i : Int32) : inL (sR h a k v) b i = inL h b i := rfl
theorem inL_sL (h : Hp) (a k b : Nat) (v : Int64) (i : Int32) : inL (sL h a k v) b i = inL h b i := rfl
theorem inL_sD (h : Hp) (a k b : Nat) (v : UInt64) (i : Int32) : inL (sD h a k v) b i = inL h b i := rfl
/-- locals: a place is unknown (none) or holds a value -/
abbrev Lo : Type := List (Option MV)
abbrev Sk : Type := List MV
/-- how a method ends: an answer (none: void), or the code of an exception -/
abbrev MRes : Type := Option MV ⊕ Nat
/-- what an instruction does: on to (pc, locals, stack, heap); a call (method, arguments, pc behind it, locals, stack below, heap); an end -/
abbrev Nd : Type := Option ((Nat × Lo × Sk × Hp) ⊕ ((Nat × List MV × Nat × Lo × Sk × Hp) ⊕ (MRes × Hp)))
abbrev Hd : Type := Lo → Sk → Hp → Nd
def isWide : MV → Bool
  | .inr (.inr _) => true
  | _ => false
/-- a place that a store of place k breaks: a wide value one below it -/
def lKill (ls : Lo) (k : Nat) : Lo := match k with
  | 0 => ls
  | j + 1 => match ls[j]? with
    | some (some v) => if isWide v = true then ls.set j none else ls
    | _ => ls
def lSet1 (ls : Lo) (k : Nat) (v : Option MV) : Lo := (lKill ls k).set k v
def lSet2 (ls : Lo) (k : Nat) (v : MV) : Lo := ((lKill ls k).set k (some v)).set (k + 1) none
/-- the locals at a method's entry -/
def eArgs : List MV → Lo
  | [] => []
  | v :: vs => match v with
    | .inr (.inr w) => some (.inr (.inr w)) :: none :: eArgs vs
    | w => some w :: eArgs vs
def entL (as : List MV) (n : Nat) : Lo := eArgs as ++ List.replicate (n - (eArgs as).length) none
def catV (v : MV) : Nat := if isWide v = true then 2 else 1
def catS : List MV → Nat
  | [] => 0
  | v :: vs => catV v + catS vs
/-- from which (method, pc) what is done; where a call's exception is taken up: the pc behind the handler's store, and the place that it takes -/
abbrev Pg : Type := (Nat → Nat → Hd) × (Nat → Nat) × (Nat → Nat → Nat → Option (Nat × Nat))
abbrev Jd : Type := Nat → Nat → Lo → Sk → Hp → (MRes → Hp → Prop) → Prop
def ndX (G : Pg) (X : Jd) (j pc : Nat) (nd : Nd) (Q : MRes → Hp → Prop) : Prop := match nd with
  | none => False
  | some (.inl (pc', ls', st', h')) => X j pc' ls' st' h' Q
  | some (.inr (.inl (j2, as, pc', ls', st', h'))) => X j2 0 (entL as (G.2.1 j2)) [] h' (fun r h2 => match r with
    | .inl v => X j pc' ls' (v.toList ++ st') h2 Q
    | .inr E => match G.2.2 j pc E with
      | some (npc, k) => npc ≠ 0 ∧ X j npc (lSet1 ls' k none) [] h2 Q
      | none => Q (.inr E) h2)
  | some (.inr (.inr (r, h'))) => Q r h'
def MonX (X : Jd) : Prop := ∀ (j pc : Nat) (ls : Lo) (st : Sk) (h : Hp) (Q Q' : MRes → Hp → Prop), (∀ r h2, Q r h2 → Q' r h2) → X j pc ls st h Q → X j pc ls st h Q'
def ClX (G : Pg) (X : Jd) : Prop := (∀ (j pc : Nat) (ls : Lo) (st : Sk) (h : Hp) (Q : MRes → Hp → Prop), ndX G X j pc (G.1 j pc ls st h) Q → X j pc ls st h Q) ∧ MonX X
/-- the least predicate closed under the steps -/
def WP (G : Pg) : Jd := fun j pc ls st h Q => ∀ X : Jd, ClX G X → X j pc ls st h Q
theorem ndX_mono {G : Pg} {X Y : Jd} (hY : MonX Y) (hXY : ∀ j pc ls st h Q, X j pc ls st h Q → Y j pc ls st h Q) {j pc : Nat} {nd : Nd} {Q Q' : MRes → Hp → Prop} (hQ : ∀ r h2, Q r h2 → Q' r h2) (h : ndX G X j pc nd Q) : ndX G Y j pc nd Q' := by
  rcases nd with _ | (⟨pc', ls', st', h'⟩ | (⟨j2, as, pc', ls', st', h'⟩ | ⟨r, h'⟩))
  · exact h
  · exact hY _ _ _ _ _ _ _ hQ (hXY _ _ _ _ _ _ h)
  · refine hY _ _ _ _ _ _ _ ?_ (hXY _ _ _ _ _ _ h)
    intro r h2 hr
    rcases r with v | E
    · exact hY _ _ _ _ _ _ _ hQ (hXY _ _ _ _ _ _ hr)
    · dsimp only at hr ⊢
      cases hh : G.2.2 j pc E with
      | none => rw [hh] at hr; exact hQ _ _ hr
      | some q => rw [hh] at hr; exact ⟨hr.1, hY _ _ _ _ _ _ _ hQ (hXY _ _ _ _ _ _ hr.2)⟩
  · exact hQ _ _ h
theorem WP_mono {G : Pg} : MonX (WP G) := fun j pc ls st h Q Q' hQ hw X hX => hX.2 j pc ls st h Q Q' hQ (hw X hX)
theorem WP_step {G : Pg} {j pc : Nat} {ls : Lo} {st : Sk} {h : Hp} {Q : MRes → Hp → Prop} (k : ndX G (WP G) j pc (G.1 j pc ls st h) Q) : WP G j pc ls st h Q :=
  fun X hX => hX.1 j pc ls st h Q (ndX_mono hX.2 (fun _ _ _ _ _ _ w => w X hX) (fun _ _ q => q) k)
theorem WP_cl (G : Pg) : ClX G (WP G) := ⟨fun _ _ _ _ _ _ k => WP_step k, WP_mono⟩
theorem WP_inv {G : Pg} {j pc : Nat} {ls : Lo} {st : Sk} {h : Hp} {Q : MRes → Hp → Prop} (k : WP G j pc ls st h Q) : ndX G (WP G) j pc (G.1 j pc ls st h) Q := by
  refine k (fun j pc ls st h Q => ndX G (WP G) j pc (G.1 j pc ls st h) Q) ⟨fun j pc ls st h Q q => ?_, fun j pc ls st h Q Q' hQ q => ?_⟩
  · refine ndX_mono WP_mono (fun _ _ _ _ _ _ w => WP_step w) (fun _ _ q => q) q
  · exact ndX_mono WP_mono (fun _ _ _ _ _ _ w => w) hQ q
theorem WP_eq (G : Pg) (j pc : Nat) (ls : Lo) (st : Sk) (h : Hp) (Q : MRes → Hp → Prop) : WP G j pc ls st h Q = ndX G (WP G) j pc (G.1 j pc ls st h) Q := propext ⟨WP_inv, WP_step⟩
