/-! xas2: the reference's small steps in values -/
abbrev tn9 (x : Int32) : Nat := x.toNatClampNeg
def dr9 (α : As) : Int32 := (109 * α.1 50 3 + 57) - (109 * α.1 50 3 + 57) / 512 * 512
def drp9 (α : As) (i : Nat) : As := asV (asV (asPop α i) i 6 0) 50 6 (α.1 50 6 + 1)
def beg9 (α : As) (i : Nat) (r : Int32) : As := asV (asV (asV (asV α i 8 r) i 7 (α.2.2.1 i 0 2)) i 9 1) i 11 (α.1 i 11 + 1)
def trn9 (α : As) (i : Nat) : As := if α.1 i 5 ≤ 0 then (if α.1 (70 + i) (tn9 (α.2.2.1 i 0 1)) = -1 then drp9 α i else beg9 α i (α.1 (70 + i) (tn9 (α.2.2.1 i 0 1)))) else asV α i 5 (α.1 i 5 - 1)
def arv9 (α : As) (w : Nat → Int32) : As := if α.2.2.2 (tn9 (w 0)) (tn9 (w 3)) = true then asV α 50 5 (α.1 50 5 + 1) else asV (asR α (tn9 (w 0)) (tn9 (w 3))) 50 4 (α.1 50 4 + 1)
def psh9 (w : Nat → Int32) : Nat → Int32 := fun k => if k = 4 then w 4 + 1 else w k
def rcv9 (α : As) (j : Nat) (w : Nat → Int32) : As := if w 1 = ii j then arv9 α w else if 7 ≤ w 4 ∨ α.2.1 j = 4 then asV α 50 6 (α.1 50 6 + 1) else asPush α j (psh9 w)
def wai9 (α : As) (i : Nat) (v : Int32) : As := asV (asV (asV α i 5 v) i 12 (α.1 i 12 + v)) i 13 (α.1 i 13 + 1)
/-- the first frame of i isn't through -/
def try9 (α : As) (i : Nat) : As := if α.1 i 6 + 1 = 5 then drp9 (asV α i 6 (α.1 i 6 + 1)) i else if α.1 i 3 = 0 then wai9 (asV (asV α i 6 (α.1 i 6 + 1)) 50 3 (dr9 α)) i (dr9 α * (1 <<< ((α.1 i 6 + 1 + 1) &&& 31)) / 512) else wai9 (asV α i 6 (α.1 i 6 + 1)) i 0
def fin9 (α : As) (i : Nat) (b : Bool) : As := if b = true then asV (asPop (asV α i 8 (-1)) i) i 6 0 else try9 (asV α i 8 (-1)) i
def end9 (α : As) (i : Nat) : As := if α.1 i 9 = 0 then fin9 α i false else fin9 (rcv9 α (tn9 (α.1 i 8)) (α.2.2.1 i 0)) i (hr9 α i (tn9 (α.1 i 8)))
/-- a frame that can arrive -/
def FV9 (n : Nat) (w : Nat → Int32) : Prop := ∃ a t b, w 0 = ii a ∧ a < n ∧ w 1 = ii t ∧ t < n ∧ w 3 = ii b ∧ b < 512
section RST
variable {τ τ' : Nat → Nat} {n A c B : Nat} {K : Int32} {p : Nat → Nat} {h h' : Hp} {α : As}
theorem RA.f (V : RA τ n p c B h α) {i : Nat} (hi : i < n) (f : Nat) (h1 : f ≤ 14) (h2 : f ≠ 4) : gI h (p i) (rf9 f) = α.1 i f := V.1 i hi f h1 h2
theorem RA.q (V : RA τ n p c B h α) {i : Nat} (hi : i < n) : Rq τ p h α i := V.2.1 i hi
theorem RA.rt (V : RA τ n p c B h α) {i j : Nat} (hi : i < n) (hj : j < 8) : gI h (p i + 3) j = α.1 (70 + i) j := (V.2.2.1 i hi j hj).1
theorem RA.cs (V : RA τ n p c B h α) {i j : Nat} (hi : i < n) (hj : j < 8) : gI h (p i + 2) j = α.1 (60 + i) j := (V.2.2.1 i hi j hj).2
theorem RA.g (V : RA τ n p c B h α) {k : Nat} (h1 : 1 ≤ k) (h2 : k ≤ 8) : gI h 121 (k - 1) = α.1 50 k := V.2.2.2.1 k h1 h2
theorem RA.ql (V : RA τ n p c B h α) {i : Nat} (hi : i < n) : gI h (p i + 1) 2 = ii (α.2.1 i) := by
  obtain ⟨c, -, L⟩ := V.q hi
  exact L.s
/-- a soft write at node i's field f -/
theorem RM.fld {i f : Nat} (R : RM τ n p A c B K h) (hi : i < n) (hf : f ≠ 7 ∧ f ≠ 8 ∧ f ≠ 10) (v : Int32) : RM τ n p A c B K (sI h (p i) (rf9 f) v) := R.sw ((Sw.refl τ h).sI (by
  rw [R.nt hi]
  have : rf9 f ≠ 7 ∧ rf9 f ≠ 8 ∧ rf9 f ≠ 11 := by unfold rf9; split <;> omega
  unfold OW
  omega))
theorem qx_hasArr (R : RM τ n p A c B K h) (V : RA τ n p c B h α) {i k : Nat} (hi : i < n) (hk5 : k < 512) (hn : nx h + 1 ≤ 580300) (hs : sc h + 4 ≤ 5700000) : ∃ h', (∀ Q, WP Gm j_Mdl_hasArrived 0 [some (.inr (.inl (some 121))), some (.inl (ii i)), some (.inl (ii k)), none, none] [] h Q = Q (.inl (some (.inl (bI (α.2.2.2 i k))))) h') ∧ Jk τ h h' ∧ nx h' = nx h + 1 ∧ sc h' = sc h + 4 := by
  obtain ⟨m, av, L, r1, r2, r3⟩ := V.2.2.2.2.1
  have hn8 := R.n8
  have F := R.F
  have hl : ∀ j, ¬ OW (τ 123) j := fun j => by rw [R.t3]; unfold OW; omega
  have hl1 : ¬ τ 123 = 1 := by rw [R.t3]; omega
  obtain ⟨h1, i1, i2, i3, i4, i5⟩ := q_ziter F L hl1 hn hs
  have tq : τ (nx h) = 1 := F.j (Nat.le_refl _)
  have LF : ∀ {g : Hp}, Jk τ h g → Lst τ g 123 7 (fun j f => τ f = 10 ∧ gI g f 0 = ii (av j).1 ∧ gI g f 1 = ii (av j).2) m c := fun J => L.fr J.1 J.2 hl1 (by omega) fun j f hf q => by
    have hS : ¬ τ f = 1 := by rw [q.1]; omega
    exact ⟨q.1, by rw [(J.2 f hS 0).1]; exact q.2.1, by rw [(J.2 f hS 1).1]; exact q.2.2⟩
  obtain ⟨r, h', rr, b, rfl, r3', r4, r5, hb⟩ := loopX (fun Q m (a : Hp × Option MV) => WP Gm j_Mdl_hasArrived 8 [some (.inr (.inl (some 121))), some (.inl (ii i)), some (.inl (ii k)), some (.inr (.inl (some (nx h)))), a.2] [] a.1 Q)
    (fun l a => Jk τ h a.1 ∧ It a.1 (nx h) 123 l ∧ nx a.1 = nx h + 1 ∧ sc a.1 = sc h + 4 ∧ ∀ j, j < l → av j ≠ (i, k)) (fun r h' => ∃ b, r = .inl (some (.inl (bI b))) ∧ Jk τ h h' ∧ nx h' = nx h + 1 ∧ sc h' = sc h + 4 ∧ (b = true ↔ ∃ j, j < m ∧ av j = (i, k))) m
    (fun l a hm hI => by
      obtain ⟨g, v4⟩ := a
      dsimp only at hI ⊢
      obtain ⟨g1, g2, g3, g4, g5⟩ := hI
      have Lg := LF g1
      have Rg := R.sw g1.sw
      obtain ⟨f, g', f1, f2, f3, f4, f5, f6, f7, f8⟩ := q_znext Lg g2 hm tq
      have Rg' := Rg.sw f5.sw
      obtain ⟨a1, a2⟩ := Rg'.ae f3.1
      have hz : ¬ f = 0 := k_int Rg'.F a1 (by rw [f3.1]; omega)
      have in0 : inL g' f 0 = true := inL_n (i := 0) (by omega) (by omega)
      have in1 : inL g' f 1 = true := inL_n (i := 1) (by omega) (by omega)
      have z0 : (0 : Int32).toNatClampNeg = 0 := by decide
      have z1 : (1 : Int32).toNatClampNeg = 1 := by decide
      have k3 := g2.1
      have hS : ¬ τ f = 1 := by rw [f3.1]; omega
      obtain ⟨y1, y2⟩ := r1 l hm
      have v0 : (gI g' f 0 = ii i) = ((av l).1 = i) := by rw [(f5.2 f hS 0).1, f3.2.1]; exact ii_inj (by omega) (by omega)
      have v1 : (gI g' f 1 = ii k) = ((av l).2 = k) := by rw [(f5.2 f hS 1).1, f3.2.2]; exact ii_inj (by omega) (by omega)
      have no : ¬ ((av l).1 = i ∧ (av l).2 = k) → ∀ j, j < l + 1 → av j ≠ (i, k) := fun w j hj e => by
        by_cases e2 : j = l
        · subst e2
          exact w ⟨by rw [e], by rw [e]⟩
        · exact g5 j (by omega) e
      by_cases e1 : (av l).1 = i
      · have e1' : gI g' f 0 = ii i := v0.mpr e1
        by_cases e2 : (av l).2 = k
        · have e2' : gI g' f 1 = ii k := v1.mpr e2
          refine Or.inl ⟨_, g', fun Q => ?_, true, rfl, g1.trans f5, by omega, by omega, ⟨fun _ => ⟨l, hm, Prod.ext e1 e2⟩, fun _ => rfl⟩⟩
          rw [e_Mdl_hasArrived_8]
          simp only [↓e_Mdl_hasArrived_0, ↓e_Mdl_hasArrived_1, ↓e_Mdl_hasArrived_4, ↓e_Mdl_hasArrived_7, ↓e_Mdl_hasArrived_9, ↓e_Mdl_hasArrived_14, ↓e_Mdl_hasArrived_17, ↓e_Mdl_hasArrived_18, ↓e_Mdl_hasArrived_23, ↓e_Mdl_hasArrived_26, ↓e_Mdl_hasArrived_28, ↓e_Mdl_hasArrived_30, ↓e_Mdl_hasArrived_31, ↓e_Mdl_hasArrived_32, ↓e_Mdl_hasArrived_33, ↓e_Mdl_hasArrived_36, ↓e_Mdl_hasArrived_38, ↓e_Mdl_hasArrived_39, ↓e_Mdl_hasArrived_40, ↓e_Mdl_hasArrived_41, ↓e_Mdl_hasArrived_44, ↓e_Mdl_hasArrived_45, ↓e_Mdl_hasArrived_46, ↓e_Mdl_hasArrived_49, ↓e_Mdl_hasArrived_50, not_true_eq_false, not_false_eq_true, one0, true_or, or_true, eq_self, bI_z, bI_nz, bI_o, b_ft, bI_1, bI_0, ↓kC_l, ↓kC_r, Option.toList_some, Option.toList_none, List.cons_append, List.nil_append, s1_0, s1_1i, s1_1r, s1_1w, s1_1n, s1_s, s2_0, s2_1i, s2_1r, s2_1w, s2_1n, s2_s, gI_sI, gI_sR, gI_sL, gI_sD, gR_sI, gR_sR, gR_sL, gR_sD, gL_sI, gL_sR, gL_sL, gL_sD, gD_sI, gD_sR, gD_sL, gD_sD, isK_sI, isK_sR, isK_sL, isK_sD, inL_sI, inL_sR, inL_sL, inL_sD, nx_sI, nx_sR, nx_sL, nx_sD, kd_sI, kd_sR, kd_sL, kd_sD, ln_sI, ln_sR, ln_sL, ln_sD, ↓reduceIte, c8_n, c8_1, c8_2, c8_3, c8_4, Nat.reduceAdd, k3, q_zhas _ Lg g2 (show l ≤ m by omega), hm, decide_true, f4, a1, hz, in0, in1, z0, z1, e1', e2']
        · have e2' : (gI g' f 1 = ii k) = False := v1.trans (eq_false e2)
          refine Or.inr ⟨(g', some (.inr (.inl (some f)))), fun Q => ?_, g1.trans f5, f6, by dsimp only; omega, by dsimp only; omega, no fun w => e2 w.2⟩
          rw [e_Mdl_hasArrived_8]
          simp only [↓e_Mdl_hasArrived_0, ↓e_Mdl_hasArrived_1, ↓e_Mdl_hasArrived_4, ↓e_Mdl_hasArrived_7, ↓e_Mdl_hasArrived_9, ↓e_Mdl_hasArrived_14, ↓e_Mdl_hasArrived_17, ↓e_Mdl_hasArrived_18, ↓e_Mdl_hasArrived_23, ↓e_Mdl_hasArrived_26, ↓e_Mdl_hasArrived_28, ↓e_Mdl_hasArrived_30, ↓e_Mdl_hasArrived_31, ↓e_Mdl_hasArrived_32, ↓e_Mdl_hasArrived_33, ↓e_Mdl_hasArrived_36, ↓e_Mdl_hasArrived_38, ↓e_Mdl_hasArrived_39, ↓e_Mdl_hasArrived_40, ↓e_Mdl_hasArrived_41, ↓e_Mdl_hasArrived_44, ↓e_Mdl_hasArrived_45, ↓e_Mdl_hasArrived_46, ↓e_Mdl_hasArrived_49, ↓e_Mdl_hasArrived_50, not_true_eq_false, not_false_eq_true, one0, true_or, or_true, eq_self, bI_z, bI_nz, bI_o, b_ft, bI_1, bI_0, ↓kC_l, ↓kC_r, Option.toList_some, Option.toList_none, List.cons_append, List.nil_append, s1_0, s1_1i, s1_1r, s1_1w, s1_1n, s1_s, s2_0, s2_1i, s2_1r, s2_1w, s2_1n, s2_s, gI_sI, gI_sR, gI_sL, gI_sD, gR_sI, gR_sR, gR_sL, gR_sD, gL_sI, gL_sR, gL_sL, gL_sD, gD_sI, gD_sR, gD_sL, gD_sD, isK_sI, isK_sR, isK_sL, isK_sD, inL_sI, inL_sR, inL_sL, inL_sD, nx_sI, nx_sR, nx_sL, nx_sD, kd_sI, kd_sR, kd_sL, kd_sD, ln_sI, ln_sR, ln_sL, ln_sD, ↓reduceIte, c8_n, c8_1, c8_2, c8_3, c8_4, Nat.reduceAdd, k3, q_zhas _ Lg g2 (show l ≤ m by omega), hm, decide_true, f4, a1, hz, in0, in1, z0, z1, e1', e2']
      · have e1' : (gI g' f 0 = ii i) = False := v0.trans (eq_false e1)
        refine Or.inr ⟨(g', some (.inr (.inl (some f)))), fun Q => ?_, g1.trans f5, f6, by dsimp only; omega, by dsimp only; omega, no fun w => e1 w.1⟩
        rw [e_Mdl_hasArrived_8]
        simp only [↓e_Mdl_hasArrived_0, ↓e_Mdl_hasArrived_1, ↓e_Mdl_hasArrived_4, ↓e_Mdl_hasArrived_7, ↓e_Mdl_hasArrived_9, ↓e_Mdl_hasArrived_14, ↓e_Mdl_hasArrived_17, ↓e_Mdl_hasArrived_18, ↓e_Mdl_hasArrived_23, ↓e_Mdl_hasArrived_26, ↓e_Mdl_hasArrived_28, ↓e_Mdl_hasArrived_30, ↓e_Mdl_hasArrived_31, ↓e_Mdl_hasArrived_32, ↓e_Mdl_hasArrived_33, ↓e_Mdl_hasArrived_36, ↓e_Mdl_hasArrived_38, ↓e_Mdl_hasArrived_39, ↓e_Mdl_hasArrived_40, ↓e_Mdl_hasArrived_41, ↓e_Mdl_hasArrived_44, ↓e_Mdl_hasArrived_45, ↓e_Mdl_hasArrived_46, ↓e_Mdl_hasArrived_49, ↓e_Mdl_hasArrived_50, not_true_eq_false, not_false_eq_true, one0, true_or, or_true, eq_self, bI_z, bI_nz, bI_o, b_ft, bI_1, bI_0, ↓kC_l, ↓kC_r, Option.toList_some, Option.toList_none, List.cons_append, List.nil_append, s1_0, s1_1i, s1_1r, s1_1w, s1_1n, s1_s, s2_0, s2_1i, s2_1r, s2_1w, s2_1n, s2_s, gI_sI, gI_sR, gI_sL, gI_sD, gR_sI, gR_sR, gR_sL, gR_sD, gL_sI, gL_sR, gL_sL, gL_sD, gD_sI, gD_sR, gD_sL, gD_sD, isK_sI, isK_sR, isK_sL, isK_sD, inL_sI, inL_sR, inL_sL, inL_sD, nx_sI, nx_sR, nx_sL, nx_sD, kd_sI, kd_sR, kd_sL, kd_sD, ln_sI, ln_sR, ln_sL, ln_sD, ↓reduceIte, c8_n, c8_1, c8_2, c8_3, c8_4, Nat.reduceAdd, k3, q_zhas _ Lg g2 (show l ≤ m by omega), hm, decide_true, f4, a1, hz, in0, in1, z0, z1, e1'])
    (fun a hI => by
      obtain ⟨g, v4⟩ := a
      dsimp only at hI ⊢
      obtain ⟨g1, g2, g3, g4, g5⟩ := hI
      have Lg := LF g1
      have k3 := g2.1
      refine ⟨_, g, fun Q => ?_, false, rfl, g1, g3, g4, ⟨fun w => absurd w (by decide), fun ⟨j, j1, j2⟩ => absurd j2 (g5 j j1)⟩⟩
      rw [e_Mdl_hasArrived_8]
      simp only [↓e_Mdl_hasArrived_0, ↓e_Mdl_hasArrived_1, ↓e_Mdl_hasArrived_4, ↓e_Mdl_hasArrived_7, ↓e_Mdl_hasArrived_9, ↓e_Mdl_hasArrived_14, ↓e_Mdl_hasArrived_17, ↓e_Mdl_hasArrived_18, ↓e_Mdl_hasArrived_23, ↓e_Mdl_hasArrived_26, ↓e_Mdl_hasArrived_28, ↓e_Mdl_hasArrived_30, ↓e_Mdl_hasArrived_31, ↓e_Mdl_hasArrived_32, ↓e_Mdl_hasArrived_33, ↓e_Mdl_hasArrived_36, ↓e_Mdl_hasArrived_38, ↓e_Mdl_hasArrived_39, ↓e_Mdl_hasArrived_40, ↓e_Mdl_hasArrived_41, ↓e_Mdl_hasArrived_44, ↓e_Mdl_hasArrived_45, ↓e_Mdl_hasArrived_46, ↓e_Mdl_hasArrived_49, ↓e_Mdl_hasArrived_50, not_true_eq_false, not_false_eq_true, one0, true_or, or_true, eq_self, bI_z, bI_nz, bI_o, b_ft, bI_1, bI_0, ↓kC_l, ↓kC_r, Option.toList_some, Option.toList_none, List.cons_append, List.nil_append, s1_0, s1_1i, s1_1r, s1_1w, s1_1n, s1_s, s2_0, s2_1i, s2_1r, s2_1w, s2_1n, s2_s, gI_sI, gI_sR, gI_sL, gI_sD, gR_sI, gR_sR, gR_sL, gR_sD, gL_sI, gL_sR, gL_sL, gL_sD, gD_sI, gD_sR, gD_sL, gD_sD, isK_sI, isK_sR, isK_sL, isK_sD, inL_sI, inL_sR, inL_sL, inL_sD, nx_sI, nx_sR, nx_sL, nx_sD, kd_sI, kd_sR, kd_sL, kd_sD, ln_sI, ln_sR, ln_sL, ln_sD, ↓reduceIte, c8_n, c8_1, c8_2, c8_3, c8_4, Nat.reduceAdd, k3, q_zhas _ Lg g2 (Nat.le_refl m), Nat.lt_irrefl, decide_false, bI_0]) m 0 (h1, none) (by omega) ⟨i2, i3, i4, i5, fun j hj => absurd hj (by omega)⟩
  have eb : b = α.2.2.2 i k := by
    have := r2 i k hi hk5
    cases hx : α.2.2.2 i k with
    | true => rw [hx] at this; exact hb.mpr (this.mp rfl)
    | false =>
      cases b with
      | false => rfl
      | true => rw [hx] at this; exact absurd (this.mpr (hb.mp rfl)) (by decide)
  refine ⟨h', fun Q => ?_, r3', r4, r5⟩
  rw [← eb, ← rr Q]
  simp only [↓e_Mdl_hasArrived_0, ↓e_Mdl_hasArrived_1, ↓e_Mdl_hasArrived_4, ↓e_Mdl_hasArrived_7, ↓e_Mdl_hasArrived_9, ↓e_Mdl_hasArrived_14, ↓e_Mdl_hasArrived_17, ↓e_Mdl_hasArrived_18, ↓e_Mdl_hasArrived_23, ↓e_Mdl_hasArrived_26, ↓e_Mdl_hasArrived_28, ↓e_Mdl_hasArrived_30, ↓e_Mdl_hasArrived_31, ↓e_Mdl_hasArrived_32, ↓e_Mdl_hasArrived_33, ↓e_Mdl_hasArrived_36, ↓e_Mdl_hasArrived_38, ↓e_Mdl_hasArrived_39, ↓e_Mdl_hasArrived_40, ↓e_Mdl_hasArrived_41, ↓e_Mdl_hasArrived_44, ↓e_Mdl_hasArrived_45, ↓e_Mdl_hasArrived_46, ↓e_Mdl_hasArrived_49, ↓e_Mdl_hasArrived_50, not_true_eq_false, not_false_eq_true, one0, true_or, or_true, eq_self, bI_z, bI_nz, bI_o, b_ft, bI_1, bI_0, ↓kC_l, ↓kC_r, Option.toList_some, Option.toList_none, List.cons_append, List.nil_append, s1_0, s1_1i, s1_1r, s1_1w, s1_1n, s1_s, s2_0, s2_1i, s2_1r, s2_1w, s2_1n, s2_s, gI_sI, gI_sR, gI_sL, gI_sD, gR_sI, gR_sR, gR_sL, gR_sD, gL_sI, gL_sR, gL_sL, gL_sD, gD_sI, gD_sR, gD_sL, gD_sD, isK_sI, isK_sR, isK_sL, isK_sD, inL_sI, inL_sR, inL_sL, inL_sD, nx_sI, nx_sR, nx_sL, nx_sD, kd_sI, kd_sR, kd_sL, kd_sD, ln_sI, ln_sR, ln_sL, ln_sD, ↓reduceIte, c8_n, c8_1, c8_2, c8_3, c8_4, Nat.reduceAdd, R.k, R.r10, R.k123, i1]
theorem qx_draw (R : RM τ n p A c B K h) (V : RA τ n p c B h α) (x : Int32) (Q : MRes → Hp → Prop) : WP Gm j_Mdl_draw 0 [some (.inr (.inl (some 121))), some (.inl x)] [] h Q = Q (.inl (some (.inl (dr9 α * x / 512)))) (sI h 121 2 (dr9 α)) := by
  have e1 : ¬ (512 : Int32) = 0 := by decide
  have e3 : gI h 121 2 = α.1 50 3 := V.g (k := 3) (by omega) (by omega)
  have e4 : (109 * gI h 121 2 + 57) - (109 * gI h 121 2 + 57) / 512 * 512 = dr9 α := by
    rw [e3]
    rfl
  simp only [↓e_Mdl_draw_0, ↓e_Mdl_draw_1, ↓e_Mdl_draw_3, ↓e_Mdl_draw_4, ↓e_Mdl_draw_7, ↓e_Mdl_draw_8, ↓e_Mdl_draw_10, ↓e_Mdl_draw_11, ↓e_Mdl_draw_14, ↓e_Mdl_draw_15, ↓e_Mdl_draw_18, ↓e_Mdl_draw_19, ↓e_Mdl_draw_22, ↓e_Mdl_draw_23, ↓e_Mdl_draw_24, ↓e_Mdl_draw_27, ↓e_Mdl_draw_28, not_true_eq_false, not_false_eq_true, one0, true_or, or_true, eq_self, bI_z, bI_nz, bI_o, b_ft, bI_1, bI_0, ↓kC_l, ↓kC_r, Option.toList_some, Option.toList_none, List.cons_append, List.nil_append, s1_0, s1_1i, s1_1r, s1_1w, s1_1n, s1_s, s2_0, s2_1i, s2_1r, s2_1w, s2_1n, s2_s, gI_sI, gI_sR, gI_sL, gI_sD, gR_sI, gR_sR, gR_sL, gR_sD, gL_sI, gL_sR, gL_sL, gL_sD, gD_sI, gD_sR, gD_sL, gD_sD, isK_sI, isK_sR, isK_sL, isK_sD, inL_sI, inL_sR, inL_sL, inL_sD, nx_sI, nx_sR, nx_sL, nx_sD, kd_sI, kd_sR, kd_sL, kd_sD, ln_sI, ln_sR, ln_sL, ln_sD, ↓reduceIte, c8_n, c8_1, c8_2, c8_3, c8_4, Nat.reduceAdd, R.k, e1, e4, Nat.reduceEqDiff, and_false, and_self]
/-- the first frame of i goes -/
theorem RM.rmvX {i : Nat} (R : RM τ n p A c B K h) (V : RA τ n p c B h α) (hi : i < n) (hl : ¬ 0 < gI h (p i) 7) (hq : ¬ α.2.1 i = 0) : ∃ v g, (∀ Q, WP Gm j_ArrayList_remove 0 [some (.inr (.inl (some (p i + 1)))), some (.inl 0), none, none] [] h Q = Q (.inl (some (.inr (.inl v)))) g) ∧ RM τ n p A c B K g ∧ RA τ n p c B g (asPop α i) ∧ Ext τ h τ g ∧ Ag τ (fun s => s = 1 ∨ s = 17 + 8 * i ∨ s = 20 + 8 * i) h g ∧ nx g = nx h ∧ sc g = sc h := by
  obtain ⟨c0, c1, L⟩ := V.q hi
  obtain ⟨N1, -, ⟨k, c0', k1, -, L0⟩, -⟩ := R.nd hi
  have hk : α.2.1 i = k ∨ True := Or.inr trivial
  have hs := L.s
  have hs0 := L0.s
  have hb : α.2.1 i < 1000000 := by
    obtain ⟨a, L1⟩ := L.li
    exact L1.b
  have hq0 : ¬ gI h (p i + 1) 2 = 0 := by
    rw [hs, show (0 : Int32) = ii 0 from rfl, ii_inj (by omega) (by omega)]
    exact hq
  obtain ⟨v, g, g1, R1, X, G, n', s'⟩ := R.rmv hi hl hq0
  obtain ⟨v2, g2, g3, X2, G2, L2, -, -⟩ := q_zremove L (by omega)
  obtain ⟨-, rfl⟩ := det g1 g3
  refine ⟨v, g, g1, R1, V.que R X G fun _ => ⟨c0, c1, ?_⟩, X, G, n', s'⟩
  have e1 : (asQ α i (α.2.1 i - 1) (fun k => α.2.2.1 i (k + 1))).2.1 i = α.2.1 i - 1 := if_pos rfl
  have e2 : (asQ α i (α.2.1 i - 1) (fun k => α.2.2.1 i (k + 1))).2.2.1 i = fun k => α.2.2.1 i (k + 1) := if_pos rfl
  rw [e1, e2]
  have t1 : ¬ (τ (p i + 1) = 9 ∨ 20 + 8 * i = 9) := by rw [(R.rl hi).2.1]; omega
  exact L2.mono fun j f _ q => ⟨q.1, fun w hw => by rw [(G2 f (by rw [q.1]; omega) w).1]; exact q.2 w hw⟩
theorem qx_drop {i : Nat} (R : RM τ n p A c B K h) (V : RA τ n p c B h α) (hi : i < n) (hl : ¬ 0 < gI h (p i) 7) (hq : ¬ α.2.1 i = 0) : ∃ h', (∀ Q, WP Gm j_Mdl_drop 0 [some (.inr (.inl (some 121))), some (.inr (.inl (some (p i))))] [] h Q = Q (.inl none) h') ∧ RM τ n p A c B K h' ∧ RA τ n p c B h' (drp9 α i) ∧ Ext τ h τ h' ∧ Ag τ (Sdr i) h h' ∧ nx h' = nx h ∧ sc h' = sc h := by
  have hn := R.n8
  obtain ⟨N1, -, ⟨k, c0, k1, c1, L⟩, -⟩ := R.nd hi
  obtain ⟨v, g, g1, R1, V1, X, G, n', s'⟩ := R.rmvX V hi hl hq
  have tp := R.nt hi
  have R2 : RM τ n p A c B K (sI g (p i) 6 0) := R1.fld (f := 6) hi (by omega) 0
  have V2 : RA τ n p c B (sI g (p i) 6 0) (asV (asPop α i) i 6 0) := V1.set (f := 6) R1 hi hn 0 (fun w => by omega)
  have e5 : gI (sI g (p i) 6 0) 121 5 = α.1 50 6 := by
    have := V2.g (k := 6) (by omega) (by omega)
    rw [this]
    show (if 50 = i ∧ 6 = 6 then _ else _) = _
    rw [if_neg (by omega)]
    rfl
  have V3 := V2.setG (k := 6) R2 hn (by omega) (by omega) (gI (sI g (p i) 6 0) 121 5 + 1)
  have R3 : RM τ n p A c B K (sI (sI g (p i) 6 0) 121 5 (gI (sI g (p i) 6 0) 121 5 + 1)) := R2.mdl (by omega)
  have d50 : ((5 : Nat) = 0) = False := eq_false (by decide)
  have d60 : ((6 : Nat) = 0) = False := eq_false (by decide)
  refine ⟨sI (sI g (p i) 6 0) 121 5 (gI (sI g (p i) 6 0) 121 5 + 1), fun Q => ?_, R3, ?_, X.trans (Ext.same (fun _ => rfl) (fun _ => rfl) rfl), ?_, n', s'⟩
  · simp only [↓e_Mdl_drop_0, ↓e_Mdl_drop_1, ↓e_Mdl_drop_4, ↓e_Mdl_drop_5, ↓e_Mdl_drop_8, ↓e_Mdl_drop_9, ↓e_Mdl_drop_10, ↓e_Mdl_drop_11, ↓e_Mdl_drop_14, ↓e_Mdl_drop_15, ↓e_Mdl_drop_16, ↓e_Mdl_drop_19, ↓e_Mdl_drop_20, ↓e_Mdl_drop_21, ↓e_Mdl_drop_24, not_true_eq_false, not_false_eq_true, one0, true_or, or_true, eq_self, bI_z, bI_nz, bI_o, b_ft, bI_1, bI_0, ↓kC_l, ↓kC_r, Option.toList_some, Option.toList_none, List.cons_append, List.nil_append, s1_0, s1_1i, s1_1r, s1_1w, s1_1n, s1_s, s2_0, s2_1i, s2_1r, s2_1w, s2_1n, s2_s, gI_sI, gI_sR, gI_sL, gI_sD, gR_sI, gR_sR, gR_sL, gR_sD, gL_sI, gL_sR, gL_sL, gL_sD, gD_sI, gD_sR, gD_sL, gD_sD, isK_sI, isK_sR, isK_sL, isK_sD, inL_sI, inL_sR, inL_sL, inL_sD, nx_sI, nx_sR, nx_sL, nx_sD, kd_sI, kd_sR, kd_sL, kd_sD, ln_sI, ln_sR, ln_sL, ln_sD, ↓reduceIte, c8_n, c8_1, c8_2, c8_3, c8_4, Nat.reduceAdd, R.nk hi, R.nz hi, N1.2.2.1.1, L.kd, g1, R1.nk hi, R1.k, d50, d60, and_false, and_self]
  · rw [e5] at V3
    rw [e5]
    exact V3
  · exact ((G.mono fun s w => by unfold Sdr; omega).sI (by rw [tp]; unfold Sdr; omega)).sI (by rw [R.t1]; unfold Sdr; omega)
theorem ii_zn {k : Nat} (hk : k < 2147483648) (h : ¬ k = 0) : ¬ ii k = 0 := fun e => h (by rwa [show (0 : Int32) = ii 0 from rfl, ii_inj hk (by omega)] at e)
end RST
