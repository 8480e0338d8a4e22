/-! xas: what both sides keep of nodes, queues, routes and arrived ones, in values; how the reference keeps it -/
abbrev As := (Nat → Nat → Int32) × (Nat → Nat) × (Nat → Nat → Nat → Int32) × (Nat → Nat → Bool)
/-- cells: node i's fields i f; the air's 50 2 .. 50 7; costs 60 + i, routes 70 + i -/
def asV (α : As) (i f : Nat) (v : Int32) : As := (fun a k => if a = i ∧ k = f then v else α.1 a k, α.2)
def asQ (α : As) (i m : Nat) (w : Nat → Nat → Int32) : As := (α.1, fun a => if a = i then m else α.2.1 a, fun a => if a = i then w else α.2.2.1 a, α.2.2.2)
def asPop (α : As) (i : Nat) : As := asQ α i (α.2.1 i - 1) (fun k => α.2.2.1 i (k + 1))
def asPush (α : As) (i : Nat) (w : Nat → Int32) : As := asQ α i (α.2.1 i + 1) (fun k => if k = α.2.1 i then w else α.2.2.1 i k)
def asR (α : As) (i k : Nat) : As := (α.1, α.2.1, α.2.2.1, fun a b => α.2.2.2 a b || (decide (a = i) && decide (b = k)))
/-- where the reference's node keeps field f -/
def rf9 (f : Nat) : Nat := if f < 10 then f else f + 1
theorem rf_inj {a b : Nat} (e : rf9 a = rf9 b) : a = b := by
  unfold rf9 at e
  split at e <;> split at e <;> omega
theorem rf_10 (f : Nat) : ¬ rf9 f = 10 := by
  unfold rf9
  split <;> omega
theorem rf_4 {f : Nat} (h : ¬ f = 4) : ¬ rf9 f = 4 := by
  unfold rf9
  split <;> omega
def fX (α : As) (i j : Nat) : Int32 := (α.1 i 0 - α.1 j 0) * (α.1 i 0 - α.1 j 0) + (α.1 i 1 - α.1 j 1) * (α.1 i 1 - α.1 j 1)
/-- node i hears node j -/
def hr9 (α : As) (i j : Nat) : Bool := decide (i ≠ j) && decide (fX α i j ≤ α.1 j 2 * α.1 j 2)
section RAS
variable {τ τ' : Nat → Nat} {n A c B B1 : Nat} {K : Int32} {p : Nat → Nat} {h h' : Hp} {α : As} {S : Nat → Prop}
def Rf (n : Nat) (p : Nat → Nat) (h : Hp) (α : As) : Prop := ∀ i, i < n → ∀ f, f ≤ 14 → f ≠ 4 → gI h (p i) (rf9 f) = α.1 i f
def Rq (τ : Nat → Nat) (p : Nat → Nat) (h : Hp) (α : As) (i : Nat) : Prop := ∃ c, (c = 0 ∨ c = 10) ∧ Lst τ h (p i + 1) (20 + 8 * i) (fun k f => τ f = 9 ∧ ∀ w, w < 5 → gI h f w = α.2.2.1 i k w) (α.2.1 i) c
def Rc (n : Nat) (p : Nat → Nat) (h : Hp) (α : As) : Prop := ∀ i, i < n → ∀ j, j < 8 → gI h (p i + 3) j = α.1 (70 + i) j ∧ gI h (p i + 2) j = α.1 (60 + i) j
def Rg (h : Hp) (α : As) : Prop := ∀ k, 1 ≤ k → k ≤ 8 → gI h 121 (k - 1) = α.1 50 k
def Ra (τ : Nat → Nat) (n c : Nat) (h : Hp) (α : As) : Prop := ∃ m, ∃ av : Nat → Nat × Nat, Lst τ h 123 7 (fun j f => τ f = 10 ∧ gI h f 0 = ii (av j).1 ∧ gI h f 1 = ii (av j).2) m c ∧ (∀ j, j < m → (av j).1 < n ∧ (av j).2 < 512) ∧ (∀ i k, i < n → k < 512 → (α.2.2.2 i k = true ↔ ∃ j, j < m ∧ av j = (i, k))) ∧ α.1 50 4 = ii m
def Rs (n : Nat) (p : Nat → Nat) (B : Nat) (h : Hp) (α : As) : Prop := ∀ i, i < n → 0 < α.1 i 7 → ∃ s, s ≤ B ∧ gI h (p i) 10 = ii s
def RA (τ : Nat → Nat) (n : Nat) (p : Nat → Nat) (c B : Nat) (h : Hp) (α : As) : Prop := Rf n p h α ∧ (∀ i, i < n → Rq τ p h α i) ∧ Rc n p h α ∧ Rg h α ∧ Ra τ n c h α ∧ Rs n p B h α
theorem RM.rl (R : RM τ n p A c B1 K h) {i : Nat} (hi : i < n) : τ (p i) = 16 + 8 * i ∧ τ (p i + 1) = 17 + 8 * i ∧ τ (p i + 2) = 18 + 8 * i ∧ τ (p i + 3) = 19 + 8 * i := (R.nd hi).1.1
theorem Rf.fr (V : Rf n p h α) (R : RM τ n p A c B1 K h) (G : Ag τ S h h') (hS : ∀ i, i < n → ¬ S (16 + 8 * i)) : Rf n p h' α := fun i hi f h1 h2 => by
  rw [(G (p i) (by rw [(R.rl hi).1]; exact hS i hi) (rf9 f)).1]
  exact V i hi f h1 h2
theorem Rs.fr (V : Rs n p B h α) (R : RM τ n p A c B1 K h) (G : Ag τ S h h') (hS : ∀ i, i < n → ¬ S (16 + 8 * i)) : Rs n p B h' α := fun i hi h1 => by
  rw [(G (p i) (by rw [(R.rl hi).1]; exact hS i hi) 10).1]
  exact V i hi h1
theorem Rq.fr {i : Nat} (V : Rq τ p h α i) (R : RM τ n p A c B1 K h) (hi : i < n) (X : Ext τ h τ' h') (G : Ag τ S h h') (h1 : ¬ S (17 + 8 * i)) (h2 : ¬ S (20 + 8 * i)) (h9 : ¬ S 9) : Rq τ' p h' α i := by
  obtain ⟨c, c1, L⟩ := V
  refine ⟨c, c1, L.fr X G (by rw [(R.rl hi).2.1]; exact h1) h2 fun k f hf q => ⟨by rw [(X.1 f hf).1]; exact q.1, fun w hw => ?_⟩⟩
  rw [(G f (by rw [q.1]; exact h9) w).1]
  exact q.2 w hw
theorem Rc.fr (V : Rc n p h α) (R : RM τ n p A c B1 K h) (G : Ag τ S h h') (hS : ∀ i, i < n → ¬ S (18 + 8 * i) ∧ ¬ S (19 + 8 * i)) : Rc n p h' α := fun i hi j hj => by
  obtain ⟨-, -, r2, r3⟩ := R.rl hi
  rw [(G (p i + 3) (by rw [r3]; exact (hS i hi).2) j).1, (G (p i + 2) (by rw [r2]; exact (hS i hi).1) j).1]
  exact V i hi j hj
theorem Rg.fr (V : Rg h α) (R : RM τ n p A c B1 K h) (G : Ag τ S h h') (h2 : ¬ S 2) : Rg h' α := fun k h1 h3 => by
  rw [(G 121 (by rw [R.t1]; exact h2) (k - 1)).1]
  exact V k h1 h3
theorem Ra.fr (V : Ra τ n c h α) (R : RM τ n p A c B1 K h) (X : Ext τ h τ' h') (G : Ag τ S h h') (h4 : ¬ S 4) (h7 : ¬ S 7) (h10 : ¬ S 10) : Ra τ' n c h' α := by
  obtain ⟨m, av, L, r⟩ := V
  refine ⟨m, av, L.fr X G (by rw [R.t3]; exact h4) h7 fun k f hf q => ?_, r⟩
  have hS : ¬ S (τ f) := by rw [q.1]; exact h10
  exact ⟨by rw [(X.1 f hf).1]; exact q.1, by rw [(G f hS 0).1]; exact q.2.1, by rw [(G f hS 1).1]; exact q.2.2⟩
theorem RM.f12 (R : RM τ n p A c B K h) (X : Ext τ h τ h') (G : Ag τ (fun s => s = 1 ∨ s = 12) h h') : RM τ n p A c B K h' := by
  obtain ⟨F, M, N, D, Fr9, AL1, AE1, BL1, BE1⟩ := R
  refine ⟨F.same X.2, M.fr F X G (by omega), N.fr F X G (by omega) (by omega), fun j hj => ?_, fun f hf => (Fr9 f hf).fr X G (by omega), AL1.fr F X G (by omega) (by omega), fun f hf => (AE1 f hf).fr X, BL1.fr F X G (by omega) (by omega), fun f hf => (BE1 f hf).fr X G (by omega)⟩
  obtain ⟨d1, d2, d3, d4, d5⟩ := D j hj
  exact ⟨d1.fr X G (by omega), d2.fr d1 G (by omega), d3.fr d1 X G (by omega) (by omega), d4.fr d1 G (by omega) (by omega), d5.fr d1 G (by omega)⟩
/-- what no one sees -/
theorem RA.fr (V : RA τ n p c B h α) (R : RM τ n p A c B1 K h) (X : Ext τ h τ' h') (G : Ag τ S h h') (hS : ∀ s, S s → s = 0 ∨ s = 1 ∨ s = 3 ∨ s = 5 ∨ s = 6 ∨ s = 8 ∨ s = 11 ∨ s = 12) : RA τ' n p c B h' α := by
  obtain ⟨v1, v2, v3, v4, v5, v6⟩ := V
  have no : ∀ s, ¬ (s = 0 ∨ s = 1 ∨ s = 3 ∨ s = 5 ∨ s = 6 ∨ s = 8 ∨ s = 11 ∨ s = 12) → ¬ S s := fun s q w => q (hS s w)
  exact ⟨v1.fr R G fun i hi => no _ (by omega), fun i hi => (v2 i hi).fr R hi X G (no _ (by omega)) (no _ (by omega)) (no _ (by omega)), v3.fr R G fun i hi => ⟨no _ (by omega), no _ (by omega)⟩, v4.fr R G (no _ (by omega)), v5.fr R X G (no _ (by omega)) (no _ (by omega)) (no _ (by omega)), v6.fr R G fun i hi => no _ (by omega)⟩
theorem RA.jk (V : RA τ n p c B h α) (R : RM τ n p A c B1 K h) (J : Jk τ h h') : RA τ n p c B h' α := V.fr R J.1 J.2 fun s w => by omega
/-- a field of node i is written -/
theorem RA.set {i f : Nat} (V : RA τ n p c B h α) (R : RM τ n p A c B1 K h) (hi : i < n) (hn : n ≤ 8) (v : Int32) (h7 : f = 7 → 0 < v → ∃ s, s ≤ B ∧ gI h (p i) 10 = ii s) : RA τ n p c B (sI h (p i) (rf9 f) v) (asV α i f v) := by
  obtain ⟨v1, v2, v3, v4, v5, v6⟩ := V
  have X : Ext τ h τ (sI h (p i) (rf9 f) v) := Ext.same (fun _ => rfl) (fun _ => rfl) rfl
  have G : Ag τ (fun s => s = 16 + 8 * i) h (sI h (p i) (rf9 f) v) := (Ag.refl _ h).sI (R.rl hi).1
  have inj : ∀ j, j < n → (p j = p i ↔ j = i) := fun j hj => ⟨fun e => R.inj hj hi e, fun e => by rw [e]⟩
  refine ⟨fun j hj g h1 h2 => ?_, fun j hj => ?_, fun j hj k hk => ?_, fun k h1 h2 => ?_, ?_, fun j hj h0 => ?_⟩
  · show _ = if j = i ∧ g = f then v else α.1 j g
    rw [gI_sI]
    by_cases e : j = i ∧ g = f
    · rw [if_pos e, if_pos ⟨(inj j hj).mpr e.1, by rw [e.2]⟩]
    · rw [if_neg e, if_neg fun w => e ⟨(inj j hj).mp w.1, rf_inj w.2⟩]
      exact v1 j hj g h1 h2
  · exact (v2 j hj).fr R hj X G (by omega) (by omega) (by omega)
  · obtain ⟨-, -, r2, r3⟩ := R.rl hj
    have := v3.fr R G (fun a ha => by omega) j hj k hk
    show gI _ _ _ = (if 70 + j = i ∧ k = f then v else _) ∧ gI _ _ _ = (if 60 + j = i ∧ k = f then v else _)
    rw [if_neg (by omega), if_neg (by omega)]
    exact this
  · have := v4.fr R G (by omega) k h1 h2
    show gI _ _ _ = (if 50 = i ∧ k = f then v else _)
    rw [if_neg (by omega)]
    exact this
  · obtain ⟨m, av, L, r1, r2, r3⟩ := v5.fr R X G (by omega) (by omega) (by omega)
    refine ⟨m, av, L, r1, r2, ?_⟩
    show (if 50 = i ∧ 4 = f then v else _) = _
    rw [if_neg (by omega)]
    exact r3
  · rw [gI_sI, if_neg fun w => rf_10 f w.2.symm]
    have h0' : 0 < (if j = i ∧ 7 = f then v else α.1 j 7) := h0
    by_cases e : j = i ∧ 7 = f
    · rw [if_pos e] at h0'
      rw [e.1]
      exact h7 e.2.symm h0'
    · rw [if_neg e] at h0'
      exact v6 j hj h0'
/-- a count of the air is written -/
theorem RA.setG {k : Nat} (V : RA τ n p c B h α) (R : RM τ n p A c B1 K h) (hn : n ≤ 8) (hk : 1 ≤ k ∧ k ≤ 8) (h4 : k ≠ 4) (v : Int32) : RA τ n p c B (sI h 121 (k - 1) v) (asV α 50 k v) := by
  obtain ⟨v1, v2, v3, v4, v5, v6⟩ := V
  have X : Ext τ h τ (sI h 121 (k - 1) v) := Ext.same (fun _ => rfl) (fun _ => rfl) rfl
  have G : Ag τ (fun s => s = 2) h (sI h 121 (k - 1) v) := (Ag.refl _ h).sI R.t1
  refine ⟨fun j hj g h1 h2 => ?_, fun j hj => (v2 j hj).fr R hj X G (by omega) (by omega) (by omega), fun j hj l hl => ?_, fun l h1 h2 => ?_, ?_, fun j hj h0 => ?_⟩
  · have := v1.fr R G (fun a ha => by omega) j hj g h1 h2
    show _ = if j = 50 ∧ g = k then v else α.1 j g
    rw [if_neg (by omega)]
    exact this
  · have := v3.fr R G (fun a ha => by omega) j hj l hl
    show gI _ _ _ = (if 70 + j = 50 ∧ l = k then v else _) ∧ gI _ _ _ = (if 60 + j = 50 ∧ l = k then v else _)
    rw [if_neg (by omega), if_neg (by omega)]
    exact this
  · show gI _ _ _ = (if 50 = 50 ∧ l = k then v else _)
    rw [gI_sI]
    by_cases e : l = k
    · rw [if_pos ⟨rfl, by omega⟩, if_pos ⟨rfl, e⟩]
    · rw [if_neg (by omega), if_neg fun w => e w.2]
      exact v4 l h1 h2
  · obtain ⟨m, av, L, r1, r2, r3⟩ := v5.fr R X G (by omega) (by omega) (by omega)
    refine ⟨m, av, L, r1, r2, ?_⟩
    show (if 50 = 50 ∧ 4 = k then v else _) = _
    rw [if_neg (by omega)]
    exact r3
  · have h0' : 0 < (if j = 50 ∧ 7 = k then v else α.1 j 7) := h0
    rw [if_neg (by omega)] at h0'
    exact v6.fr R G (fun a ha => by omega) j hj h0'
/-- a place of the reference that nobody compares here -/
theorem RA.keepG {k : Nat} (V : RA τ n p c B h α) (R : RM τ n p A c B1 K h) (hk : 8 ≤ k) (v : Int32) : RA τ n p c B (sI h 121 k v) α := by
  obtain ⟨v1, v2, v3, v4, v5, v6⟩ := V
  have X : Ext τ h τ (sI h 121 k v) := Ext.same (fun _ => rfl) (fun _ => rfl) rfl
  have G : Ag τ (fun s => s = 2) h (sI h 121 k v) := (Ag.refl _ h).sI R.t1
  refine ⟨v1.fr R G (fun a ha => by omega), fun j hj => (v2 j hj).fr R hj X G (by omega) (by omega) (by omega), v3.fr R G (fun a ha => by omega), fun l h1 h2 => ?_, v5.fr R X G (by omega) (by omega) (by omega), v6.fr R G (fun a ha => by omega)⟩
  rw [gI_sI, if_neg (by omega)]
  exact v4 l h1 h2
/-- since when node i sends -/
theorem RA.setS {i : Nat} (V : RA τ n p c B h α) (R : RM τ n p A c B1 K h) (hi : i < n) {s : Nat} (hs : s ≤ B) : RA τ n p c B (sI h (p i) 10 (ii s)) α := by
  obtain ⟨v1, v2, v3, v4, v5, v6⟩ := V
  have X : Ext τ h τ (sI h (p i) 10 (ii s)) := Ext.same (fun _ => rfl) (fun _ => rfl) rfl
  have G : Ag τ (fun s => s = 16 + 8 * i) h (sI h (p i) 10 (ii s)) := (Ag.refl _ h).sI (R.rl hi).1
  refine ⟨fun j hj g h1 h2 => ?_, fun j hj => (v2 j hj).fr R hj X G (by omega) (by omega) (by omega), v3.fr R G (fun a ha => by omega), v4.fr R G (by omega), v5.fr R X G (by omega) (by omega) (by omega), fun j hj h0 => ?_⟩
  · rw [gI_sI, if_neg fun w => rf_10 g w.2]
    exact v1 j hj g h1 h2
  · rw [gI_sI]
    by_cases e : p j = p i ∧ 10 = 10
    · rw [if_pos e]
      exact ⟨s, hs, rfl⟩
    · rw [if_neg e]
      exact v6 j hj h0
/-- the queue of node i is another one -/
theorem RA.que {i m : Nat} {w : Nat → Nat → Int32} (V : RA τ n p c B h α) (R : RM τ n p A c B1 K h) (X : Ext τ h τ' h') (G : Ag τ (fun s => s = 1 ∨ s = 17 + 8 * i ∨ s = 20 + 8 * i) h h') (q : i < n → Rq τ' p h' (asQ α i m w) i) : RA τ' n p c B h' (asQ α i m w) := by
  obtain ⟨v1, v2, v3, v4, v5, v6⟩ := V
  refine ⟨v1.fr R G (fun a ha => by omega), fun j hj => ?_, v3.fr R G (fun a ha => by omega), v4.fr R G (by omega), v5.fr R X G (by omega) (by omega) (by omega), v6.fr R G (fun a ha => by omega)⟩
  by_cases e : j = i
  · subst e
    exact q hj
  · obtain ⟨c, c1, L⟩ := (v2 j hj).fr R hj X G (by omega) (by omega) (by omega)
    refine ⟨c, c1, ?_⟩
    have e1 : (asQ α i m w).2.1 j = α.2.1 j := if_neg e
    have e2 : (asQ α i m w).2.2.1 j = α.2.2.1 j := if_neg e
    rw [e1, e2]
    exact L
/-- a row of costs or routes is written -/
theorem RA.setR {i j : Nat} (V : RA τ n p c B h α) (R : RM τ n p A c B1 K h) (hi : i < n) (hn : n ≤ 8) (v : Int32) : RA τ n p c B (sI h (p i + 3) j v) (asV α (70 + i) j v) := by
  obtain ⟨v1, v2, v3, v4, v5, v6⟩ := V
  have X : Ext τ h τ (sI h (p i + 3) j v) := Ext.same (fun _ => rfl) (fun _ => rfl) rfl
  have G : Ag τ (fun s => s = 19 + 8 * i) h (sI h (p i + 3) j v) := (Ag.refl _ h).sI (R.rl hi).2.2.2
  refine ⟨fun a ha g h1 h2 => ?_, fun a ha => (v2 a ha).fr R ha X G (by omega) (by omega) (by omega), fun a ha l hl => ?_, fun l h1 h2 => ?_, ?_, fun a ha h0 => ?_⟩
  · have := v1.fr R G (fun a ha => by omega) a ha g h1 h2
    show _ = if a = 70 + i ∧ g = j then v else α.1 a g
    rw [if_neg (by omega)]
    exact this
  · have e1 : (p a + 3 = p i + 3 ↔ a = i) := ⟨fun e => R.inj ha hi (by omega), fun e => by rw [e]⟩
    have e2 : ¬ p a + 2 = p i + 3 := fun e => by
      have q1 := (R.rl ha).2.2.1
      rw [e, (R.rl hi).2.2.2] at q1
      omega
    show gI _ _ _ = (if 70 + a = 70 + i ∧ l = j then v else _) ∧ gI _ _ _ = (if 60 + a = 70 + i ∧ l = j then v else _)
    refine ⟨?_, by rw [gI_sI, if_neg (fun w => e2 w.1), if_neg (by omega)]; exact (v3 a ha l hl).2⟩
    rw [gI_sI]
    by_cases e : a = i ∧ l = j
    · rw [if_pos ⟨e1.mpr e.1, e.2⟩, if_pos ⟨by omega, e.2⟩]
    · rw [if_neg (fun w => e ⟨e1.mp w.1, w.2⟩), if_neg (fun w => e ⟨by omega, w.2⟩)]
      exact (v3 a ha l hl).1
  · have := v4.fr R G (by omega) l h1 h2
    show gI _ _ _ = (if 50 = 70 + i ∧ l = j then v else _)
    rw [if_neg (by omega)]
    exact this
  · obtain ⟨m, av, L, r1, r2, r3⟩ := v5.fr R X G (by omega) (by omega) (by omega)
    refine ⟨m, av, L, r1, r2, ?_⟩
    show (if 50 = 70 + i ∧ 4 = j then v else _) = _
    rw [if_neg (by omega)]
    exact r3
  · have h0' : 0 < (if a = 70 + i ∧ 7 = j then v else α.1 a 7) := h0
    rw [if_neg (by omega)] at h0'
    exact v6.fr R G (fun a ha => by omega) a ha h0'
theorem RA.setC {i j : Nat} (V : RA τ n p c B h α) (R : RM τ n p A c B1 K h) (hi : i < n) (hn : n ≤ 8) (v : Int32) : RA τ n p c B (sI h (p i + 2) j v) (asV α (60 + i) j v) := by
  obtain ⟨v1, v2, v3, v4, v5, v6⟩ := V
  have X : Ext τ h τ (sI h (p i + 2) j v) := Ext.same (fun _ => rfl) (fun _ => rfl) rfl
  have G : Ag τ (fun s => s = 18 + 8 * i) h (sI h (p i + 2) j v) := (Ag.refl _ h).sI (R.rl hi).2.2.1
  refine ⟨fun a ha g h1 h2 => ?_, fun a ha => (v2 a ha).fr R ha X G (by omega) (by omega) (by omega), fun a ha l hl => ?_, fun l h1 h2 => ?_, ?_, fun a ha h0 => ?_⟩
  · have := v1.fr R G (fun a ha => by omega) a ha g h1 h2
    show _ = if a = 60 + i ∧ g = j then v else α.1 a g
    rw [if_neg (by omega)]
    exact this
  · have e1 : (p a + 2 = p i + 2 ↔ a = i) := ⟨fun e => R.inj ha hi (by omega), fun e => by rw [e]⟩
    have e2 : ¬ p a + 3 = p i + 2 := fun e => by
      have q1 := (R.rl ha).2.2.2
      rw [e, (R.rl hi).2.2.1] at q1
      omega
    show gI _ _ _ = (if 70 + a = 60 + i ∧ l = j then v else _) ∧ gI _ _ _ = (if 60 + a = 60 + i ∧ l = j then v else _)
    refine ⟨by rw [gI_sI, if_neg (fun w => e2 w.1), if_neg (by omega)]; exact (v3 a ha l hl).1, ?_⟩
    rw [gI_sI]
    by_cases e : a = i ∧ l = j
    · rw [if_pos ⟨e1.mpr e.1, e.2⟩, if_pos ⟨by omega, e.2⟩]
    · rw [if_neg (fun w => e ⟨e1.mp w.1, w.2⟩), if_neg (fun w => e ⟨by omega, w.2⟩)]
      exact (v3 a ha l hl).2
  · have := v4.fr R G (by omega) l h1 h2
    show gI _ _ _ = (if 50 = 60 + i ∧ l = j then v else _)
    rw [if_neg (by omega)]
    exact this
  · obtain ⟨m, av, L, r1, r2, r3⟩ := v5.fr R X G (by omega) (by omega) (by omega)
    refine ⟨m, av, L, r1, r2, ?_⟩
    show (if 50 = 60 + i ∧ 4 = j then v else _) = _
    rw [if_neg (by omega)]
    exact r3
  · have h0' : 0 < (if a = 60 + i ∧ 7 = j then v else α.1 a 7) := h0
    rw [if_neg (by omega)] at h0'
    exact v6.fr R G (fun a ha => by omega) a ha h0'
/-- who hears whom is told by the values -/
theorem RA.hr {i j : Nat} (V : RA τ n p c B h α) (hi : i < n) (hj : j < n) : mhear h p i j = hr9 α i j := by
  have e : ∀ a, a < n → ∀ f, f ≤ 2 → gI h (p a) f = α.1 a f := fun a ha f hf => by
    have := V.1 a ha f (by omega) (by omega)
    unfold rf9 at this
    rwa [if_pos (by omega)] at this
  unfold mhear hr9 mfar fX
  rw [e i hi 0 (by omega), e j hj 0 (by omega), e i hi 1 (by omega), e j hj 1 (by omega), e j hj 2 (by omega)]
end RAS
