/-! xas4: the reference receives, in values -/
section RSR
variable {τ τ' : Nat → Nat} {n A c B : Nat} {K : Int32} {p : Nat → Nat} {h h' : Hp} {α : As}
/-- a frame joins the queue of node i -/
theorem RM.qAddX {i t : Nat} {w : Nat → Int32} (R : RM τ n p A c B K h) (V : RA τ n p c B h α) (hi : i < n) {g : Hp} (N : Nw τ h 5 g) (ht : t < n) (hv : ∀ j, j < 5 → gI g (nx h) j = w j) (h1 : w 1 = ii t) (h4 : α.2.1 i < 4) (hn : nx h + 10 ≤ 580300) (hs : sc h + 100 ≤ 5700000) :
    ∃ τ' h', (∀ Q, WP Gm j_ArrayList_add_LjavalangObjectZ 0 [some (.inr (.inl (some (p i + 1)))), some (.inr (.inl (some (nx h))))] [] g Q = Q (.inl (some (.inl 1))) h') ∧ RM τ' n p A c B K h' ∧ RA τ' n p c B h' (asPush α i w) ∧ Ext τ h τ' h' ∧ Ag τ (fun s => s = 1 ∨ s = 17 + 8 * i ∨ s = 20 + 8 * i) h h' ∧ nx h' ≤ nx h + 2 ∧ sc h' ≤ sc h + 60 := by
  have F := R.F
  obtain ⟨n1, n2, n3, n4, Xg, Gg⟩ := id N
  have f125 := F.1
  obtain ⟨N1, -, -, VL1, -⟩ := R.nd hi
  have F1 : Fs (upr τ (nx h) 9) g := F.up 9 (by omega)
  have X1 : Ext τ h (upr τ (nx h) 9) g := ⟨fun z hz => ⟨upr_ne (by omega), (Xg.1 z hz).2.1, (Xg.1 z hz).2.2⟩, by omega⟩
  obtain ⟨c0, c1, L⟩ := (V.q hi).fr R hi X1 Gg (by omega) (by omega) (by omega)
  have hlp : p i + 1 < nx h := isK_lt (show isK h (p i + 1) kc_ArrayList = true by
    obtain ⟨c3, -, L3⟩ := V.q hi
    exact L3.kd)
  have t4 : upr τ (nx h) 9 (p i + 1) = 17 + 8 * i := by rw [upr_ne (by omega)]; exact (R.rl hi).2.1
  have L' : Lst (upr τ (nx h) 9) g (p i + 1) (20 + 8 * i) (fun k f => upr τ (nx h) 9 f = 9 ∧ ∀ j, j < 5 → gI g f j = if k = α.2.1 i then w j else α.2.2.1 i k j) (α.2.1 i) c0 := L.mono fun k f hk q => ⟨q.1, fun j hj => by rw [if_neg (by omega)]; exact q.2 j hj⟩
  obtain ⟨τ', u, u1, Xu, u3, Fu, Gu, ⟨c', c2, Lu⟩, nu, su⟩ := q_zadd F1 L' (by omega) (by omega) (by omega) (N.any F) ⟨upr_eq, fun j hj => by rw [if_pos rfl]; exact hv j hj⟩ (by omega)
  have Xt := X1.trans Xu
  have Gt : Ag τ (fun s => s = 1 ∨ s = 17 + 8 * i ∨ s = 20 + 8 * i) h u := (Gg.mono fun s w => Or.inl w).trans F X1 (Or.inl rfl) (Gu.mono fun s w => by rw [t4] at w; exact w)
  have role : ∀ f, nx h ≤ f → τ' f = 1 ∨ (f = nx h ∧ τ' f = 9) ∨ τ' f = 20 + 8 * i := fun f hf => by
    rcases u3 with rfl | rfl
    · by_cases e : f = nx h
      · exact Or.inr (Or.inl ⟨e, by rw [e]; exact upr_eq⟩)
      · exact Or.inl (by rw [upr_ne e]; exact F.j hf)
    · exact new_role (q2 := nx g) (b := 20 + 8 * i) F (Or.inr rfl) hf
  have keep : isK u (nx h) 100 = true ∧ ln u (nx h) = 5 ∧ ∀ j, gI u (nx h) j = gI g (nx h) j := ⟨Xu.k n3, by rw [Xu.l n3]; exact n4, fun j => (Gu (nx h) (by rw [upr_eq, t4]; omega) j).1⟩
  have LL : Lst τ' u (p i + 1) (20 + 8 * i) (fun k f => τ' f = 9 ∧ ∀ j, j < 5 → gI u f j = if k = α.2.1 i then w j else α.2.2.1 i k j) (α.2.1 i + 1) c' := Lu.mono fun k f _ q => by
    have hf : f < nx g := F1.lt (by rw [q.1]; omega)
    have hS : ¬ (upr τ (nx h) 9 f = 1 ∨ upr τ (nx h) 9 f = upr τ (nx h) 9 (p i + 1) ∨ upr τ (nx h) 9 f = 20 + 8 * i) := by rw [q.1, t4]; omega
    exact ⟨by rw [(Xu.1 f hf).1]; exact q.1, fun j hj => by rw [(Gu f hS j).1]; exact q.2 j hj⟩
  refine ⟨τ', u, u1, R.queue Fu Xt Gt (fun f hf w0 => ?_) (fun f hf => ?_) (fun f hf => ?_) (fun _ => ⟨α.2.1 i + 1, c', by omega, by omega, LL.mono fun j f _ q => q.1⟩) (fun _ w0 => ?_), V.que R Xt Gt fun _ => ⟨c', by omega, ?_⟩, Xt, Gt, by omega, by omega⟩
  · have := role f hf
    have e : f = nx h := by omega
    subst e
    exact ⟨keep.1, keep.2.1, t, ht, by rw [keep.2.2, hv 1 (by omega)]; exact h1⟩
  · have := role f hf
    omega
  · have := role f hf
    omega
  · have eP : ¬ (τ (p i) = 1 ∨ τ (p i) = 17 + 8 * i ∨ τ (p i) = 20 + 8 * i) := by rw [(R.rl hi).1]; omega
    rw [(Gt (p i) eP 7).1] at w0
    obtain ⟨v1, -⟩ := VL1 w0
    rw [(Gt (p i) eP 8).1]
    refine ⟨v1, ?_⟩
    rw [LL.s]
    exact ii_zn (by omega) (by omega)
  · have e1 : (asQ α i (α.2.1 i + 1) (fun k => if k = α.2.1 i then w else α.2.2.1 i k)).2.1 i = α.2.1 i + 1 := if_pos rfl
    have e2 : (asQ α i (α.2.1 i + 1) (fun k => if k = α.2.1 i then w else α.2.2.1 i k)).2.2.1 i = fun k => if k = α.2.1 i then w else α.2.2.1 i k := if_pos rfl
    rw [e1, e2]
    exact LL.mono fun k f _ q => ⟨q.1, fun j hj => by
      rw [q.2 j hj]
      show (if k = α.2.1 i then w j else α.2.2.1 i k j) = (if k = α.2.1 i then w else α.2.2.1 i k) j
      by_cases e : k = α.2.1 i
      · rw [if_pos e, if_pos e]
      · rw [if_neg e, if_neg e]⟩
/-- a pair joins the arrived ones; one more is delivered -/
theorem RM.arrAddX {a k : Nat} (R : RM τ n p A c B K h) (V : RA τ n p c B h α) (ha : a < n) (hk5 : k < 512) {g : Hp} (N : Nw τ h 2 g) (hv : gI g (nx h) 0 = ii a ∧ gI g (nx h) 1 = ii k) (hA : A ≤ 16000) (hn : nx h + 10 ≤ 580300) (hs : sc h + 100000 ≤ 5700000) :
    ∃ τ' h' c', (∀ Q, WP Gm j_ArrayList_add_LjavalangObjectZ 0 [some (.inr (.inl (some 123))), some (.inr (.inl (some (nx h))))] [] g Q = Q (.inl (some (.inl 1))) h') ∧ RM τ' n p (A + 1) c' B K h' ∧ gI h' 121 3 = α.1 50 4 ∧ RA τ' n p c' B (sI h' 121 3 (α.1 50 4 + 1)) (asV (asR α a k) 50 4 (α.1 50 4 + 1)) ∧ Ext τ h τ' h' ∧ Ag τ (fun s => s = 1 ∨ s = 4 ∨ s = 7) h h' ∧ nx h' ≤ nx h + 2 ∧ sc h' + 4 * c ≤ sc h + 12 + 4 * c' := by
  have F := R.F
  have hn8 := R.n8
  obtain ⟨n1, n2, n3, n4, Xg, Gg⟩ := id N
  have f125 := F.1
  obtain ⟨kk, k1, ⟨k2, k3⟩, L0⟩ := R.al
  have F1 : Fs (upr τ (nx h) 10) g := F.up 10 (by omega)
  have X1 : Ext τ h (upr τ (nx h) 10) g := ⟨fun z hz => ⟨upr_ne (by omega), (Xg.1 z hz).2.1, (Xg.1 z hz).2.2⟩, by omega⟩
  obtain ⟨m, av, L, r1, r2, r3⟩ := V.2.2.2.2.1.fr R X1 Gg (by omega) (by omega) (by omega)
  have em : m = kk := by
    obtain ⟨m', av', L', -⟩ := V.2.2.2.2.1
    have s1 := L.s
    have s2 := L0.s
    have e : gI g 124 2 = gI g 124 2 := rfl
    have s3 : gI g 123 2 = gI h 123 2 := (Gg 123 (by rw [R.t3]; omega) 2).1
    have b1 : m < 1000000 := by
      obtain ⟨a9, L9⟩ := L.li
      exact L9.b
    rw [s1, s2] at s3
    rwa [ii_inj (by omega) (by omega)] at s3
  have hkc : c = 0 ∨ m ≤ c := by
    obtain ⟨a9, L9, d9, -⟩ := L
    rcases L9.d with e | e
    · rcases d9 with w | w
      · exact Or.inl w.2
      · exact absurd e.1 w.2.2.1
    · rcases d9 with w | w
      · exact Or.inl w.2
      · exact Or.inr (by rw [← w.2.1]; exact e.2.1)
  have t4 : upr τ (nx h) 10 123 = 4 := F1.2.2.2.2.2.1
  let av' : Nat → Nat × Nat := fun j => if j = m then (a, k) else av j
  have L' : Lst (upr τ (nx h) 10) g 123 7 (fun j f => upr τ (nx h) 10 f = 10 ∧ gI g f 0 = ii (av' j).1 ∧ gI g f 1 = ii (av' j).2) m c := L.mono fun j f hj q => by
    have e : av' j = av j := if_neg (by omega)
    rw [e]
    exact q
  have em' : av' m = (a, k) := if_pos rfl
  have hE : upr τ (nx h) 10 (nx h) = 10 ∧ gI g (nx h) 0 = ii (av' m).1 ∧ gI g (nx h) 1 = ii (av' m).2 := by
    rw [em']
    exact ⟨upr_eq, hv⟩
  have add : ∃ τ' u c', (∀ Q, WP Gm j_ArrayList_add_LjavalangObjectZ 0 [some (.inr (.inl (some 123))), some (.inr (.inl (some (nx h))))] [] g Q = Q (.inl (some (.inl 1))) u) ∧ Ext (upr τ (nx h) 10) g τ' u ∧ (τ' = upr τ (nx h) 10 ∨ τ' = upr (upr τ (nx h) 10) (nx g) 7) ∧ Fs τ' u ∧ Ag (upr τ (nx h) 10) (fun s => s = 1 ∨ s = upr τ (nx h) 10 123 ∨ s = 7) g u ∧ (c' = c ∨ (c = 0 ∧ c' = 10) ∨ (m = c ∧ 10 ≤ c ∧ c' = c + c / 2)) ∧ Lst τ' u 123 7 (fun j f => upr τ (nx h) 10 f = 10 ∧ gI g f 0 = ii (av' j).1 ∧ gI g f 1 = ii (av' j).2) (m + 1) c' ∧ nx u ≤ nx g + 1 ∧ sc u + 4 * c ≤ sc g + 10 + 4 * c' := by
    by_cases hg : c = 0 ∨ m < c
    · obtain ⟨τ', u, u1, Xu, u3, Fu, Gu, ⟨c', c1, Lu⟩, nu, su⟩ := q_zadd F1 L' hg (by omega) (by omega) (N.any F) hE (by omega)
      exact ⟨τ', u, c', u1, Xu, u3, Fu, Gu, by omega, Lu, nu, by omega⟩
    · obtain ⟨u, u1, Xu, Fu, Gu, Lu, nu, su⟩ := q_zaddG F1 L' (by omega) (by omega) (by omega) (by omega) (by omega) (N.any F) hE (by omega)
      exact ⟨_, u, c + c / 2, u1, Xu, Or.inr rfl, Fu, Gu, by omega, Lu, by omega, by omega⟩
  obtain ⟨τ', u, c', u1, Xu, u3, Fu, Gu, c1, Lu, nu, su⟩ := add
  have Xt := X1.trans Xu
  have Gt : Ag τ (fun s => s = 1 ∨ s = 4 ∨ s = 7) h u := (Gg.mono fun s w => Or.inl w).trans F X1 (Or.inl rfl) (Gu.mono fun s w => by rw [t4] at w; exact w)
  have role : ∀ f, nx h ≤ f → τ' f = 1 ∨ (f = nx h ∧ τ' f = 10) ∨ τ' f = 7 := fun f hf => by
    rcases u3 with rfl | rfl
    · by_cases e : f = nx h
      · exact Or.inr (Or.inl ⟨e, by rw [e]; exact upr_eq⟩)
      · exact Or.inl (by rw [upr_ne e]; exact F.j hf)
    · exact new_role (q2 := nx g) (b := 7) F (Or.inr rfl) hf
  have keep : isK u (nx h) 100 = true ∧ ln u (nx h) = 2 := ⟨Xu.k n3, by rw [Xu.l n3]; exact n4⟩
  have LL : Lst τ' u 123 7 (fun j f => τ' f = 10 ∧ gI u f 0 = ii (av' j).1 ∧ gI u f 1 = ii (av' j).2) (m + 1) c' := Lu.mono fun j f _ q => by
    have hf : f < nx g := F1.lt (by rw [q.1]; omega)
    have hS : ¬ (upr τ (nx h) 10 f = 1 ∨ upr τ (nx h) 10 f = upr τ (nx h) 10 123 ∨ upr τ (nx h) 10 f = 7) := by rw [q.1, t4]; omega
    exact ⟨by rw [(Xu.1 f hf).1]; exact q.1, by rw [(Gu f hS 0).1]; exact q.2.1, by rw [(Gu f hS 1).1]; exact q.2.2⟩
  have R2 : RM τ' n p (A + 1) c' B K u := R.arr Fu Xt Gt (fun f hf => ?_) (fun f hf w => ?_) (fun f hf => ?_) ⟨m + 1, by omega, by omega, LL.mono fun j f _ q => q.1⟩
  · have e121 : gI u 121 3 = α.1 50 4 := by
      rw [(Gt 121 (by rw [R.t1]; omega) 3).1]
      exact V.g (k := 4) (by omega) (by omega)
    refine ⟨τ', u, c', u1, R2, e121, ?_, Xt, Gt, by omega, by omega⟩
    obtain ⟨v1, v2, v3, v4, v5, v6⟩ := V
    have Xs : Ext τ' u τ' (sI u 121 3 (α.1 50 4 + 1)) := Ext.same (fun _ => rfl) (fun _ => rfl) rfl
    have Gs : Ag τ' (fun s => s = 2) u (sI u 121 3 (α.1 50 4 + 1)) := (Ag.refl _ u).sI R2.t1
    refine ⟨fun i hi f h1 h2 => ?_, fun i hi => ?_, fun i hi j hj => ?_, fun l h1 h2 => ?_, ⟨m + 1, av', LL.fr Xs Gs (by rw [R2.t3]; omega) (by omega) fun j f hf q => ?_, fun j hj => ?_, fun i l hi hl => ?_, ?_⟩, fun i hi h0 => ?_⟩
    · have := (v1.fr R Gt (fun a ha => by omega)).fr R2 Gs (fun a ha => by omega) i hi f h1 h2
      show _ = if i = 50 ∧ f = 4 then _ else α.1 i f
      rw [if_neg (by omega)]
      exact this
    · obtain ⟨c9, c8, L9⟩ := ((v2 i hi).fr R hi Xt Gt (by omega) (by omega) (by omega)).fr R2 hi Xs Gs (by omega) (by omega) (by omega)
      exact ⟨c9, c8, L9⟩
    · have := (v3.fr R Gt (fun a ha => by omega)).fr R2 Gs (fun a ha => by omega) i hi j hj
      show gI _ _ _ = (if 70 + i = 50 ∧ j = 4 then _ else _) ∧ gI _ _ _ = (if 60 + i = 50 ∧ j = 4 then _ else _)
      rw [if_neg (by omega), if_neg (by omega)]
      exact this
    · show gI _ _ _ = (if 50 = 50 ∧ l = 4 then _ else _)
      rw [gI_sI]
      by_cases e : l = 4
      · rw [if_pos ⟨rfl, by omega⟩, if_pos ⟨rfl, e⟩]
      · rw [if_neg (by omega), if_neg fun w => e w.2]
        exact v4.fr R Gt (by omega) l h1 h2
    · have hS : ¬ τ' f = 2 := by rw [q.1]; omega
      exact ⟨q.1, by rw [(Gs f hS 0).1]; exact q.2.1, by rw [(Gs f hS 1).1]; exact q.2.2⟩
    · by_cases e : j = m
      · rw [e, em']; exact ⟨ha, hk5⟩
      · have e2 : av' j = av j := if_neg e
        rw [e2]
        exact r1 j (by omega)
    · show (α.2.2.2 i l || (decide (i = a) && decide (l = k))) = true ↔ _
      rw [Bool.or_eq_true, Bool.and_eq_true, decide_eq_true_eq, decide_eq_true_eq, r2 i l hi hl]
      constructor
      · rintro (⟨j, j1, j2⟩ | ⟨e1, e2⟩)
        · exact ⟨j, by omega, by rw [← j2]; exact if_neg (by omega)⟩
        · exact ⟨m, by omega, by rw [em', e1, e2]⟩
      · rintro ⟨j, j1, j2⟩
        by_cases e : j = m
        · rw [e, em'] at j2
          cases j2
          exact Or.inr ⟨rfl, rfl⟩
        · refine Or.inl ⟨j, by omega, ?_⟩
          rw [← j2]
          exact (if_neg e).symm
    · show (if 50 = 50 ∧ 4 = 4 then α.1 50 4 + 1 else α.1 50 4) = _
      rw [if_pos ⟨rfl, rfl⟩, r3, ii_succ]
    · have h0' : 0 < (if i = 50 ∧ 7 = 4 then α.1 50 4 + 1 else α.1 i 7) := h0
      rw [if_neg (by omega)] at h0'
      exact (v6.fr R Gt (fun a ha => by omega)).fr R2 Gs (fun a ha => by omega) i hi h0'
  · have := role f hf
    omega
  · have := role f hf
    have e : f = nx h := by omega
    subst e
    exact keep
  · have := role f hf
    omega
/-- the reference's receive at j, a frame of values w -/
theorem qx_recv {j f : Nat} {w : Nat → Int32} (R : RM τ n p A c B K h) (V : RA τ n p c B h α) (hj : j < n) (hf : τ f = 9) (hw : ∀ k, k < 5 → gI h f k = w k) (hv : FV9 n w) (hq4 : α.2.1 j ≤ 4) (hA : A ≤ 16000) (hn : nx h + 20 ≤ 580300) (hs : sc h + 100100 ≤ 5700000) :
    ∃ τ' A' c' h', (∀ Q, WP Gm j_Mdl_receive 0 [some (.inr (.inl (some 121))), some (.inl (ii j)), some (.inr (.inl (some f)))] [] h Q = Q (.inl none) h') ∧ RM τ' n p A' c' B K h' ∧ RA τ' n p c' B h' (rcv9 α j w) ∧ A' ≤ A + 1 ∧ Ext τ h τ' h' ∧ Ag τ (Src j) h h' ∧ nx h' ≤ nx h + 4 ∧ sc h' + 4 * c ≤ sc h + 80 + 4 * c' := by
  have F := R.F
  have hn8 := R.n8
  obtain ⟨a, t, b, w0, ha, w1, ht, w3, hb⟩ := hv
  obtain ⟨z0, z1, z2, z3, z4, z5⟩ := i32n
  obtain ⟨l2, l3, l5⟩ := i32p
  obtain ⟨a1, a2, -⟩ := R.fr hf
  have fz := k_int F a1 (by omega)
  obtain ⟨i0, i1, i2, i3, i4⟩ := rd5 a2
  have g0 : gI h f 0 = ii a := (hw 0 (by omega)).trans w0
  have g1 : gI h f 1 = ii t := (hw 1 (by omega)).trans w1
  have g3 : gI h f 3 = ii b := (hw 3 (by omega)).trans w3
  have g4 : gI h f 4 = w 4 := hw 4 (by omega)
  have et : (ii t = ii j) = (t = j) := ii_inj (by omega) (by omega)
  have ta : tn9 (w 0) = a := by rw [w0]; exact ii_nat (by omega)
  have tb' : tn9 (w 3) = b := by rw [w3]; exact ii_nat (by omega)
  unfold rcv9
  rw [w1]
  by_cases e : t = j
  · subst e
    rw [if_pos rfl]
    unfold arv9
    rw [ta, tb']
    obtain ⟨h1, b1, jk, n1, s1⟩ := qx_hasArr R V ha hb (by omega) (by omega)
    have R1 := R.sw jk.sw
    have V1 := V.jk R jk
    cases hx : α.2.2.2 a b with
    | true =>
      rw [hx] at b1
      rw [if_pos rfl]
      have e4 : gI h1 121 4 = α.1 50 5 := V1.g (k := 5) (by omega) (by omega)
      have R2 := R1.mdl (k := 4) (v := α.1 50 5 + 1) (by omega)
      have V2 := V1.setG (k := 5) R1 hn8 (by omega) (by omega) (α.1 50 5 + 1)
      have d40 : ((4 : Nat) = 0) = False := eq_false (by decide)
      refine ⟨τ, A, c, _, fun Q => ?_, R2, V2, by omega, jk.1.trans (Ext.same (fun _ => rfl) (fun _ => rfl) rfl), (ag_md (jk.2.mono fun s w => Or.inl w) R.t1 (Or.inr rfl) : Ag τ (fun s => s = 1 ∨ s = 2) h _).mono fun s w => by unfold Src; omega, by show nx h1 ≤ _; omega, by show sc h1 + _ ≤ _; omega⟩
      simp only [↓e_Mdl_receive_0, ↓e_Mdl_receive_1, ↓e_Mdl_receive_2, ↓e_Mdl_receive_3, ↓e_Mdl_receive_4, ↓e_Mdl_receive_7, ↓e_Mdl_receive_8, ↓e_Mdl_receive_9, ↓e_Mdl_receive_10, ↓e_Mdl_receive_11, ↓e_Mdl_receive_12, ↓e_Mdl_receive_13, ↓e_Mdl_receive_14, ↓e_Mdl_receive_17, ↓e_Mdl_receive_20, ↓e_Mdl_receive_21, ↓e_Mdl_receive_22, ↓e_Mdl_receive_25, ↓e_Mdl_receive_26, ↓e_Mdl_receive_27, ↓e_Mdl_receive_30, ↓e_Mdl_receive_33, ↓e_Mdl_receive_34, ↓e_Mdl_receive_37, ↓e_Mdl_receive_38, ↓e_Mdl_receive_40, ↓e_Mdl_receive_41, ↓e_Mdl_receive_42, ↓e_Mdl_receive_43, ↓e_Mdl_receive_44, ↓e_Mdl_receive_45, ↓e_Mdl_receive_46, ↓e_Mdl_receive_47, ↓e_Mdl_receive_48, ↓e_Mdl_receive_49, ↓e_Mdl_receive_50, ↓e_Mdl_receive_51, ↓e_Mdl_receive_52, ↓e_Mdl_receive_55, ↓e_Mdl_receive_56, ↓e_Mdl_receive_57, ↓e_Mdl_receive_58, ↓e_Mdl_receive_61, ↓e_Mdl_receive_62, ↓e_Mdl_receive_63, ↓e_Mdl_receive_66, ↓e_Mdl_receive_67, ↓e_Mdl_receive_68, ↓e_Mdl_receive_69, ↓e_Mdl_receive_70, ↓e_Mdl_receive_72, ↓e_Mdl_receive_75, ↓e_Mdl_receive_76, ↓e_Mdl_receive_79, ↓e_Mdl_receive_80, ↓e_Mdl_receive_83, ↓e_Mdl_receive_86, ↓e_Mdl_receive_89, ↓e_Mdl_receive_92, ↓e_Mdl_receive_93, ↓e_Mdl_receive_96, ↓e_Mdl_receive_97, ↓e_Mdl_receive_98, ↓e_Mdl_receive_101, ↓e_Mdl_receive_102, ↓e_Mdl_receive_103, ↓e_Mdl_receive_106, ↓e_Mdl_receive_109, ↓e_Mdl_receive_110, ↓e_Mdl_receive_113, ↓e_Mdl_receive_114, ↓e_Mdl_receive_117, ↓e_Mdl_receive_120, ↓e_Mdl_receive_123, ↓e_Mdl_receive_124, ↓e_Mdl_receive_126, ↓e_Mdl_receive_127, ↓e_Mdl_receive_128, ↓e_Mdl_receive_129, ↓e_Mdl_receive_130, ↓e_Mdl_receive_131, ↓e_Mdl_receive_132, ↓e_Mdl_receive_133, ↓e_Mdl_receive_134, ↓e_Mdl_receive_135, ↓e_Mdl_receive_136, ↓e_Mdl_receive_137, ↓e_Mdl_receive_138, ↓e_Mdl_receive_139, ↓e_Mdl_receive_140, ↓e_Mdl_receive_141, ↓e_Mdl_receive_142, ↓e_Mdl_receive_143, ↓e_Mdl_receive_144, ↓e_Mdl_receive_145, ↓e_Mdl_receive_146, ↓e_Mdl_receive_147, ↓e_Mdl_receive_148, ↓e_Mdl_receive_149, ↓e_Mdl_receive_150, ↓e_Mdl_receive_151, ↓e_Mdl_receive_152, ↓e_Mdl_receive_153, ↓e_Mdl_receive_154, ↓e_Mdl_receive_155, ↓e_Mdl_receive_156, ↓e_Mdl_receive_157, ↓e_Mdl_receive_158, ↓e_Mdl_receive_161, ↓e_Mdl_receive_162, not_true_eq_false, not_false_eq_true, one0, true_or, or_true, eq_self, bI_z, bI_nz, bI_o, b_ft, bI_1, bI_0, ↓kC_l, ↓kC_r, Option.toList_some, Option.toList_none, List.cons_append, List.nil_append, s1_0, s1_1i, s1_1r, s1_1w, s1_1n, s1_s, s2_0, s2_1i, s2_1r, s2_1w, s2_1n, s2_s, gI_sI, gI_sR, gI_sL, gI_sD, gR_sI, gR_sR, gR_sL, gR_sD, gL_sI, gL_sR, gL_sL, gL_sD, gD_sI, gD_sR, gD_sL, gD_sD, isK_sI, isK_sR, isK_sL, isK_sD, inL_sI, inL_sR, inL_sL, inL_sD, nx_sI, nx_sR, nx_sL, nx_sD, kd_sI, kd_sR, kd_sL, kd_sD, ln_sI, ln_sR, ln_sL, ln_sD, ↓reduceIte, c8_n, c8_1, c8_2, c8_3, c8_4, Nat.reduceAdd, R.k, a1, fz, i0, i1, i3, z0, z1, z3, g0, g1, g3, b1, R1.k, e4, d40, and_false, and_self]
    | false =>
      rw [hx] at b1
      rw [if_neg (by decide)]
      obtain ⟨c1', c2', fl1⟩ := R1.fr hf
      generalize hg0 : hN h1 100 2 2 = g0'
      have N0 : Nw τ h1 2 g0' := by rw [← hg0]; exact Nw.new R1.F 2
      have k0 := N0.2.2.1
      have y0 : inL g0' (nx h1) 0 = true := N0.in (i := 0) (by omega) (by omega)
      have y1 : inL g0' (nx h1) 1 = true := N0.in (i := 1) (by omega) (by omega)
      have xf : isK g0' f 100 = true := N0.2.2.2.2.1.k c1'
      obtain ⟨x0, x1, x2, x3, x4⟩ := rd5 (g := g0') (f := f) (by rw [N0.2.2.2.2.1.l c1']; exact c2')
      have hne : (f = nx h1) = False := eq_false (Nat.ne_of_lt (isK_lt c1'))
      have nz : (nx h1 = 0) = False := eq_false (by have := R1.F.1; omega)
      have v0 : gI g0' f 0 = ii a := by rw [(N0.2.2.2.2.2 f (by rw [hf]; omega) 0).1, (jk.2 f (by rw [hf]; omega) 0).1]; exact g0
      have v3 : gI g0' f 3 = ii b := by rw [(N0.2.2.2.2.2 f (by rw [hf]; omega) 3).1, (jk.2 f (by rw [hf]; omega) 3).1]; exact g3
      generalize hg : sI (sI g0' (nx h1) 0 (ii a)) (nx h1) 1 (ii b) = g
      have N : Nw τ h1 2 g := by rw [← hg]; exact (N0.sI R1.F).sI R1.F
      have gv : gI g (nx h1) 0 = ii a ∧ gI g (nx h1) 1 = ii b := by
        rw [← hg]
        simp only [gI_sI, Nat.reduceEqDiff, and_false, and_self, ↓reduceIte]
      obtain ⟨τ', u, c', u1, R2, u3, V2, X2, G2, n2, s2⟩ := R1.arrAddX V1 ha hb N gv hA (by omega) (by omega)
      have hr : okR cM sM h1 1 2 = true := ok_big (by omega) (by omega)
      have R3 := R2.mdl (k := 3) (v := α.1 50 4 + 1) (by omega)
      have X3 : Ext τ h τ' u := jk.1.trans X2
      have G3 : Ag τ (fun s => s = 1 ∨ s = 2 ∨ s = 4 ∨ s = 7) h u := (jk.2.mono fun s w => Or.inl w).trans F jk.1 (Or.inl rfl) (G2.mono fun s w => by omega)
      have d30 : ((3 : Nat) = 0) = False := eq_false (by decide)
      refine ⟨τ', A + 1, c', _, fun Q => ?_, R3, V2, Nat.le_refl _, X3.trans (Ext.same (fun _ => rfl) (fun _ => rfl) rfl), (G3.sI (by rw [R.t1]; exact Or.inr (Or.inl rfl))).mono fun s w => by unfold Src; omega, by show nx u ≤ _; omega, by show sc u + _ ≤ _; omega⟩
      simp only [↓e_Mdl_receive_0, ↓e_Mdl_receive_1, ↓e_Mdl_receive_2, ↓e_Mdl_receive_3, ↓e_Mdl_receive_4, ↓e_Mdl_receive_7, ↓e_Mdl_receive_8, ↓e_Mdl_receive_9, ↓e_Mdl_receive_10, ↓e_Mdl_receive_11, ↓e_Mdl_receive_12, ↓e_Mdl_receive_13, ↓e_Mdl_receive_14, ↓e_Mdl_receive_17, ↓e_Mdl_receive_20, ↓e_Mdl_receive_21, ↓e_Mdl_receive_22, ↓e_Mdl_receive_25, ↓e_Mdl_receive_26, ↓e_Mdl_receive_27, ↓e_Mdl_receive_30, ↓e_Mdl_receive_33, ↓e_Mdl_receive_34, ↓e_Mdl_receive_37, ↓e_Mdl_receive_38, ↓e_Mdl_receive_40, ↓e_Mdl_receive_41, ↓e_Mdl_receive_42, ↓e_Mdl_receive_43, ↓e_Mdl_receive_44, ↓e_Mdl_receive_45, ↓e_Mdl_receive_46, ↓e_Mdl_receive_47, ↓e_Mdl_receive_48, ↓e_Mdl_receive_49, ↓e_Mdl_receive_50, ↓e_Mdl_receive_51, ↓e_Mdl_receive_52, ↓e_Mdl_receive_55, ↓e_Mdl_receive_56, ↓e_Mdl_receive_57, ↓e_Mdl_receive_58, ↓e_Mdl_receive_61, ↓e_Mdl_receive_62, ↓e_Mdl_receive_63, ↓e_Mdl_receive_66, ↓e_Mdl_receive_67, ↓e_Mdl_receive_68, ↓e_Mdl_receive_69, ↓e_Mdl_receive_70, ↓e_Mdl_receive_72, ↓e_Mdl_receive_75, ↓e_Mdl_receive_76, ↓e_Mdl_receive_79, ↓e_Mdl_receive_80, ↓e_Mdl_receive_83, ↓e_Mdl_receive_86, ↓e_Mdl_receive_89, ↓e_Mdl_receive_92, ↓e_Mdl_receive_93, ↓e_Mdl_receive_96, ↓e_Mdl_receive_97, ↓e_Mdl_receive_98, ↓e_Mdl_receive_101, ↓e_Mdl_receive_102, ↓e_Mdl_receive_103, ↓e_Mdl_receive_106, ↓e_Mdl_receive_109, ↓e_Mdl_receive_110, ↓e_Mdl_receive_113, ↓e_Mdl_receive_114, ↓e_Mdl_receive_117, ↓e_Mdl_receive_120, ↓e_Mdl_receive_123, ↓e_Mdl_receive_124, ↓e_Mdl_receive_126, ↓e_Mdl_receive_127, ↓e_Mdl_receive_128, ↓e_Mdl_receive_129, ↓e_Mdl_receive_130, ↓e_Mdl_receive_131, ↓e_Mdl_receive_132, ↓e_Mdl_receive_133, ↓e_Mdl_receive_134, ↓e_Mdl_receive_135, ↓e_Mdl_receive_136, ↓e_Mdl_receive_137, ↓e_Mdl_receive_138, ↓e_Mdl_receive_139, ↓e_Mdl_receive_140, ↓e_Mdl_receive_141, ↓e_Mdl_receive_142, ↓e_Mdl_receive_143, ↓e_Mdl_receive_144, ↓e_Mdl_receive_145, ↓e_Mdl_receive_146, ↓e_Mdl_receive_147, ↓e_Mdl_receive_148, ↓e_Mdl_receive_149, ↓e_Mdl_receive_150, ↓e_Mdl_receive_151, ↓e_Mdl_receive_152, ↓e_Mdl_receive_153, ↓e_Mdl_receive_154, ↓e_Mdl_receive_155, ↓e_Mdl_receive_156, ↓e_Mdl_receive_157, ↓e_Mdl_receive_158, ↓e_Mdl_receive_161, ↓e_Mdl_receive_162, not_true_eq_false, not_false_eq_true, one0, true_or, or_true, eq_self, bI_z, bI_nz, bI_o, b_ft, bI_1, bI_0, ↓kC_l, ↓kC_r, Option.toList_some, Option.toList_none, List.cons_append, List.nil_append, s1_0, s1_1i, s1_1r, s1_1w, s1_1n, s1_s, s2_0, s2_1i, s2_1r, s2_1w, s2_1n, s2_s, gI_sI, gI_sR, gI_sL, gI_sD, gR_sI, gR_sR, gR_sL, gR_sD, gL_sI, gL_sR, gL_sL, gL_sD, gD_sI, gD_sR, gD_sL, gD_sD, isK_sI, isK_sR, isK_sL, isK_sD, inL_sI, inL_sR, inL_sL, inL_sD, nx_sI, nx_sR, nx_sL, nx_sD, kd_sI, kd_sR, kd_sL, kd_sD, ln_sI, ln_sR, ln_sL, ln_sD, ↓reduceIte, c8_n, c8_1, c8_2, c8_3, c8_4, Nat.reduceAdd, R.k, a1, fz, i0, i1, i3, z0, z1, z2, z3, g0, g1, g3, b1, R1.k, R1.r10, R1.k123, l2, Nat.reduceLeDiff, and_self, hr, hg0, k0, y0, y1, xf, x0, x3, v0, v3, hne, nz, false_and, and_false, Nat.reduceEqDiff, hg, N.2.2.2.2.1.k R1.k123, u1, R2.k, u3, d30]
  · rw [if_neg (by rw [et]; exact e)]
    obtain ⟨N1, -, -, -⟩ := R.nd hj
    obtain ⟨c0, c1, L⟩ := V.q hj
    have d50 : ((5 : Nat) = 0) = False := eq_false (by decide)
    have e5 : gI h 121 5 = α.1 50 6 := V.g (k := 6) (by omega) (by omega)
    have Rd := R.mdl (k := 5) (v := α.1 50 6 + 1) (by omega)
    have Vd := V.setG (k := 6) R hn8 (by omega) (by omega) (α.1 50 6 + 1)
    have Gd : Ag τ (Src j) h (sI h 121 5 (α.1 50 6 + 1)) := ag_md (Ag.refl _ h) R.t1 (by unfold Src; omega)
    have ek : (ii (α.2.1 j) = 4) = (α.2.1 j = 4) := ii_inj (j := 4) (by omega) (by omega)
    by_cases h7 : 7 ≤ w 4
    · rw [if_pos (Or.inl h7)]
      refine ⟨τ, A, c, _, fun Q => ?_, Rd, Vd, by omega, Ext.same (fun _ => rfl) (fun _ => rfl) rfl, Gd, by show nx h ≤ _; omega, by show sc h + _ ≤ _; omega⟩
      simp only [↓e_Mdl_receive_0, ↓e_Mdl_receive_1, ↓e_Mdl_receive_2, ↓e_Mdl_receive_3, ↓e_Mdl_receive_4, ↓e_Mdl_receive_7, ↓e_Mdl_receive_8, ↓e_Mdl_receive_9, ↓e_Mdl_receive_10, ↓e_Mdl_receive_11, ↓e_Mdl_receive_12, ↓e_Mdl_receive_13, ↓e_Mdl_receive_14, ↓e_Mdl_receive_17, ↓e_Mdl_receive_20, ↓e_Mdl_receive_21, ↓e_Mdl_receive_22, ↓e_Mdl_receive_25, ↓e_Mdl_receive_26, ↓e_Mdl_receive_27, ↓e_Mdl_receive_30, ↓e_Mdl_receive_33, ↓e_Mdl_receive_34, ↓e_Mdl_receive_37, ↓e_Mdl_receive_38, ↓e_Mdl_receive_40, ↓e_Mdl_receive_41, ↓e_Mdl_receive_42, ↓e_Mdl_receive_43, ↓e_Mdl_receive_44, ↓e_Mdl_receive_45, ↓e_Mdl_receive_46, ↓e_Mdl_receive_47, ↓e_Mdl_receive_48, ↓e_Mdl_receive_49, ↓e_Mdl_receive_50, ↓e_Mdl_receive_51, ↓e_Mdl_receive_52, ↓e_Mdl_receive_55, ↓e_Mdl_receive_56, ↓e_Mdl_receive_57, ↓e_Mdl_receive_58, ↓e_Mdl_receive_61, ↓e_Mdl_receive_62, ↓e_Mdl_receive_63, ↓e_Mdl_receive_66, ↓e_Mdl_receive_67, ↓e_Mdl_receive_68, ↓e_Mdl_receive_69, ↓e_Mdl_receive_70, ↓e_Mdl_receive_72, ↓e_Mdl_receive_75, ↓e_Mdl_receive_76, ↓e_Mdl_receive_79, ↓e_Mdl_receive_80, ↓e_Mdl_receive_83, ↓e_Mdl_receive_86, ↓e_Mdl_receive_89, ↓e_Mdl_receive_92, ↓e_Mdl_receive_93, ↓e_Mdl_receive_96, ↓e_Mdl_receive_97, ↓e_Mdl_receive_98, ↓e_Mdl_receive_101, ↓e_Mdl_receive_102, ↓e_Mdl_receive_103, ↓e_Mdl_receive_106, ↓e_Mdl_receive_109, ↓e_Mdl_receive_110, ↓e_Mdl_receive_113, ↓e_Mdl_receive_114, ↓e_Mdl_receive_117, ↓e_Mdl_receive_120, ↓e_Mdl_receive_123, ↓e_Mdl_receive_124, ↓e_Mdl_receive_126, ↓e_Mdl_receive_127, ↓e_Mdl_receive_128, ↓e_Mdl_receive_129, ↓e_Mdl_receive_130, ↓e_Mdl_receive_131, ↓e_Mdl_receive_132, ↓e_Mdl_receive_133, ↓e_Mdl_receive_134, ↓e_Mdl_receive_135, ↓e_Mdl_receive_136, ↓e_Mdl_receive_137, ↓e_Mdl_receive_138, ↓e_Mdl_receive_139, ↓e_Mdl_receive_140, ↓e_Mdl_receive_141, ↓e_Mdl_receive_142, ↓e_Mdl_receive_143, ↓e_Mdl_receive_144, ↓e_Mdl_receive_145, ↓e_Mdl_receive_146, ↓e_Mdl_receive_147, ↓e_Mdl_receive_148, ↓e_Mdl_receive_149, ↓e_Mdl_receive_150, ↓e_Mdl_receive_151, ↓e_Mdl_receive_152, ↓e_Mdl_receive_153, ↓e_Mdl_receive_154, ↓e_Mdl_receive_155, ↓e_Mdl_receive_156, ↓e_Mdl_receive_157, ↓e_Mdl_receive_158, ↓e_Mdl_receive_161, ↓e_Mdl_receive_162, not_true_eq_false, not_false_eq_true, one0, true_or, or_true, eq_self, bI_z, bI_nz, bI_o, b_ft, bI_1, bI_0, ↓kC_l, ↓kC_r, Option.toList_some, Option.toList_none, List.cons_append, List.nil_append, s1_0, s1_1i, s1_1r, s1_1w, s1_1n, s1_s, s2_0, s2_1i, s2_1r, s2_1w, s2_1n, s2_s, gI_sI, gI_sR, gI_sL, gI_sD, gR_sI, gR_sR, gR_sL, gR_sD, gL_sI, gL_sR, gL_sL, gL_sD, gD_sI, gD_sR, gD_sL, gD_sD, isK_sI, isK_sR, isK_sL, isK_sD, inL_sI, inL_sR, inL_sL, inL_sD, nx_sI, nx_sR, nx_sL, nx_sD, kd_sI, kd_sR, kd_sL, kd_sD, ln_sI, ln_sR, ln_sL, ln_sD, ↓reduceIte, c8_n, c8_1, c8_2, c8_3, c8_4, Nat.reduceAdd, R.k, a1, fz, i1, i4, z1, z4, g1, g4, et, e, h7, e5, d50, and_false, and_self]
    · by_cases h4 : α.2.1 j = 4
      · have ek4 : (ii (α.2.1 j) = 4) = True := by rw [ek]; exact eq_true h4
        rw [if_pos (Or.inr h4)]
        refine ⟨τ, A, c, _, fun Q => ?_, Rd, Vd, by omega, Ext.same (fun _ => rfl) (fun _ => rfl) rfl, Gd, by show nx h ≤ _; omega, by show sc h + _ ≤ _; omega⟩
        simp only [↓e_Mdl_receive_0, ↓e_Mdl_receive_1, ↓e_Mdl_receive_2, ↓e_Mdl_receive_3, ↓e_Mdl_receive_4, ↓e_Mdl_receive_7, ↓e_Mdl_receive_8, ↓e_Mdl_receive_9, ↓e_Mdl_receive_10, ↓e_Mdl_receive_11, ↓e_Mdl_receive_12, ↓e_Mdl_receive_13, ↓e_Mdl_receive_14, ↓e_Mdl_receive_17, ↓e_Mdl_receive_20, ↓e_Mdl_receive_21, ↓e_Mdl_receive_22, ↓e_Mdl_receive_25, ↓e_Mdl_receive_26, ↓e_Mdl_receive_27, ↓e_Mdl_receive_30, ↓e_Mdl_receive_33, ↓e_Mdl_receive_34, ↓e_Mdl_receive_37, ↓e_Mdl_receive_38, ↓e_Mdl_receive_40, ↓e_Mdl_receive_41, ↓e_Mdl_receive_42, ↓e_Mdl_receive_43, ↓e_Mdl_receive_44, ↓e_Mdl_receive_45, ↓e_Mdl_receive_46, ↓e_Mdl_receive_47, ↓e_Mdl_receive_48, ↓e_Mdl_receive_49, ↓e_Mdl_receive_50, ↓e_Mdl_receive_51, ↓e_Mdl_receive_52, ↓e_Mdl_receive_55, ↓e_Mdl_receive_56, ↓e_Mdl_receive_57, ↓e_Mdl_receive_58, ↓e_Mdl_receive_61, ↓e_Mdl_receive_62, ↓e_Mdl_receive_63, ↓e_Mdl_receive_66, ↓e_Mdl_receive_67, ↓e_Mdl_receive_68, ↓e_Mdl_receive_69, ↓e_Mdl_receive_70, ↓e_Mdl_receive_72, ↓e_Mdl_receive_75, ↓e_Mdl_receive_76, ↓e_Mdl_receive_79, ↓e_Mdl_receive_80, ↓e_Mdl_receive_83, ↓e_Mdl_receive_86, ↓e_Mdl_receive_89, ↓e_Mdl_receive_92, ↓e_Mdl_receive_93, ↓e_Mdl_receive_96, ↓e_Mdl_receive_97, ↓e_Mdl_receive_98, ↓e_Mdl_receive_101, ↓e_Mdl_receive_102, ↓e_Mdl_receive_103, ↓e_Mdl_receive_106, ↓e_Mdl_receive_109, ↓e_Mdl_receive_110, ↓e_Mdl_receive_113, ↓e_Mdl_receive_114, ↓e_Mdl_receive_117, ↓e_Mdl_receive_120, ↓e_Mdl_receive_123, ↓e_Mdl_receive_124, ↓e_Mdl_receive_126, ↓e_Mdl_receive_127, ↓e_Mdl_receive_128, ↓e_Mdl_receive_129, ↓e_Mdl_receive_130, ↓e_Mdl_receive_131, ↓e_Mdl_receive_132, ↓e_Mdl_receive_133, ↓e_Mdl_receive_134, ↓e_Mdl_receive_135, ↓e_Mdl_receive_136, ↓e_Mdl_receive_137, ↓e_Mdl_receive_138, ↓e_Mdl_receive_139, ↓e_Mdl_receive_140, ↓e_Mdl_receive_141, ↓e_Mdl_receive_142, ↓e_Mdl_receive_143, ↓e_Mdl_receive_144, ↓e_Mdl_receive_145, ↓e_Mdl_receive_146, ↓e_Mdl_receive_147, ↓e_Mdl_receive_148, ↓e_Mdl_receive_149, ↓e_Mdl_receive_150, ↓e_Mdl_receive_151, ↓e_Mdl_receive_152, ↓e_Mdl_receive_153, ↓e_Mdl_receive_154, ↓e_Mdl_receive_155, ↓e_Mdl_receive_156, ↓e_Mdl_receive_157, ↓e_Mdl_receive_158, ↓e_Mdl_receive_161, ↓e_Mdl_receive_162, not_true_eq_false, not_false_eq_true, one0, true_or, or_true, eq_self, bI_z, bI_nz, bI_o, b_ft, bI_1, bI_0, ↓kC_l, ↓kC_r, Option.toList_some, Option.toList_none, List.cons_append, List.nil_append, s1_0, s1_1i, s1_1r, s1_1w, s1_1n, s1_s, s2_0, s2_1i, s2_1r, s2_1w, s2_1n, s2_s, gI_sI, gI_sR, gI_sL, gI_sD, gR_sI, gR_sR, gR_sL, gR_sD, gL_sI, gL_sR, gL_sL, gL_sD, gD_sI, gD_sR, gD_sL, gD_sD, isK_sI, isK_sR, isK_sL, isK_sD, inL_sI, inL_sR, inL_sL, inL_sD, nx_sI, nx_sR, nx_sL, nx_sD, kd_sI, kd_sR, kd_sL, kd_sD, ln_sI, ln_sR, ln_sL, ln_sD, ↓reduceIte, c8_n, c8_1, c8_2, c8_3, c8_4, Nat.reduceAdd, R.k, a1, fz, i1, i4, z1, z4, g1, g4, et, e, h7, R.r9, R.k122, q_ng _ R hj, R.nk hj, R.nz hj, N1.2.2.1.1, L.kd, q_zsize _ L, ek4, e5, d50, and_false, and_self]
      · have ek4 : (ii (α.2.1 j) = 4) = False := by rw [ek]; exact eq_false h4
        rw [if_neg (fun q => by rcases q with q | q; exact h7 q; exact h4 q)]
        generalize hg0 : hN h 100 5 5 = g0'
        have N0 : Nw τ h 5 g0' := by rw [← hg0]; exact Nw.new F 5
        have k0 := N0.2.2.1
        obtain ⟨y0, y1, y2, y3, y4⟩ := rd5 N0.2.2.2.1
        have xf : isK g0' f 100 = true := N0.2.2.2.2.1.k a1
        obtain ⟨x0, x1, x2, x3, x4⟩ := rd5 (g := g0') (f := f) (by rw [N0.2.2.2.2.1.l a1]; exact a2)
        have hne : (f = nx h) = False := eq_false (Nat.ne_of_lt (isK_lt a1))
        have nz : (nx h = 0) = False := eq_false (by have := F.1; omega)
        have vv : ∀ k, k < 5 → gI g0' f k = w k := fun k hk => by rw [(N0.2.2.2.2.2 f (by rw [hf]; omega) k).1]; exact hw k hk
        generalize hg : sI (sI (sI (sI (sI g0' (nx h) 0 (w 0)) (nx h) 1 (w 1)) (nx h) 2 (w 2)) (nx h) 3 (w 3)) (nx h) 4 (w 4 + 1) = g
        have N : Nw τ h 5 g := by rw [← hg]; exact ((((N0.sI F).sI F).sI F).sI F).sI F
        have gv : ∀ k, k < 5 → gI g (nx h) k = psh9 w k := fun k hk => by
          rw [← hg]
          unfold psh9
          have : k = 0 ∨ k = 1 ∨ k = 2 ∨ k = 3 ∨ k = 4 := by omega
          rcases this with rfl | rfl | rfl | rfl | rfl <;> simp only [gI_sI, Nat.reduceEqDiff, and_false, and_self, ↓reduceIte]
        obtain ⟨τ', u, u1, R2, V2, X2, G2, n2, s2⟩ := R.qAddX V hj N ht gv (show psh9 w 1 = ii t from w1) (by omega) (by omega) (by omega)
        have hr : okR cM sM h 1 5 = true := ok_big (by omega) (by omega)
        refine ⟨τ', A, c, u, fun Q => ?_, R2, V2, by omega, X2, G2.mono fun s w => by unfold Src; omega, by omega, by omega⟩
        simp only [↓e_Mdl_receive_0, ↓e_Mdl_receive_1, ↓e_Mdl_receive_2, ↓e_Mdl_receive_3, ↓e_Mdl_receive_4, ↓e_Mdl_receive_7, ↓e_Mdl_receive_8, ↓e_Mdl_receive_9, ↓e_Mdl_receive_10, ↓e_Mdl_receive_11, ↓e_Mdl_receive_12, ↓e_Mdl_receive_13, ↓e_Mdl_receive_14, ↓e_Mdl_receive_17, ↓e_Mdl_receive_20, ↓e_Mdl_receive_21, ↓e_Mdl_receive_22, ↓e_Mdl_receive_25, ↓e_Mdl_receive_26, ↓e_Mdl_receive_27, ↓e_Mdl_receive_30, ↓e_Mdl_receive_33, ↓e_Mdl_receive_34, ↓e_Mdl_receive_37, ↓e_Mdl_receive_38, ↓e_Mdl_receive_40, ↓e_Mdl_receive_41, ↓e_Mdl_receive_42, ↓e_Mdl_receive_43, ↓e_Mdl_receive_44, ↓e_Mdl_receive_45, ↓e_Mdl_receive_46, ↓e_Mdl_receive_47, ↓e_Mdl_receive_48, ↓e_Mdl_receive_49, ↓e_Mdl_receive_50, ↓e_Mdl_receive_51, ↓e_Mdl_receive_52, ↓e_Mdl_receive_55, ↓e_Mdl_receive_56, ↓e_Mdl_receive_57, ↓e_Mdl_receive_58, ↓e_Mdl_receive_61, ↓e_Mdl_receive_62, ↓e_Mdl_receive_63, ↓e_Mdl_receive_66, ↓e_Mdl_receive_67, ↓e_Mdl_receive_68, ↓e_Mdl_receive_69, ↓e_Mdl_receive_70, ↓e_Mdl_receive_72, ↓e_Mdl_receive_75, ↓e_Mdl_receive_76, ↓e_Mdl_receive_79, ↓e_Mdl_receive_80, ↓e_Mdl_receive_83, ↓e_Mdl_receive_86, ↓e_Mdl_receive_89, ↓e_Mdl_receive_92, ↓e_Mdl_receive_93, ↓e_Mdl_receive_96, ↓e_Mdl_receive_97, ↓e_Mdl_receive_98, ↓e_Mdl_receive_101, ↓e_Mdl_receive_102, ↓e_Mdl_receive_103, ↓e_Mdl_receive_106, ↓e_Mdl_receive_109, ↓e_Mdl_receive_110, ↓e_Mdl_receive_113, ↓e_Mdl_receive_114, ↓e_Mdl_receive_117, ↓e_Mdl_receive_120, ↓e_Mdl_receive_123, ↓e_Mdl_receive_124, ↓e_Mdl_receive_126, ↓e_Mdl_receive_127, ↓e_Mdl_receive_128, ↓e_Mdl_receive_129, ↓e_Mdl_receive_130, ↓e_Mdl_receive_131, ↓e_Mdl_receive_132, ↓e_Mdl_receive_133, ↓e_Mdl_receive_134, ↓e_Mdl_receive_135, ↓e_Mdl_receive_136, ↓e_Mdl_receive_137, ↓e_Mdl_receive_138, ↓e_Mdl_receive_139, ↓e_Mdl_receive_140, ↓e_Mdl_receive_141, ↓e_Mdl_receive_142, ↓e_Mdl_receive_143, ↓e_Mdl_receive_144, ↓e_Mdl_receive_145, ↓e_Mdl_receive_146, ↓e_Mdl_receive_147, ↓e_Mdl_receive_148, ↓e_Mdl_receive_149, ↓e_Mdl_receive_150, ↓e_Mdl_receive_151, ↓e_Mdl_receive_152, ↓e_Mdl_receive_153, ↓e_Mdl_receive_154, ↓e_Mdl_receive_155, ↓e_Mdl_receive_156, ↓e_Mdl_receive_157, ↓e_Mdl_receive_158, ↓e_Mdl_receive_161, ↓e_Mdl_receive_162, not_true_eq_false, not_false_eq_true, one0, true_or, or_true, eq_self, bI_z, bI_nz, bI_o, b_ft, bI_1, bI_0, ↓kC_l, ↓kC_r, Option.toList_some, Option.toList_none, List.cons_append, List.nil_append, s1_0, s1_1i, s1_1r, s1_1w, s1_1n, s1_s, s2_0, s2_1i, s2_1r, s2_1w, s2_1n, s2_s, gI_sI, gI_sR, gI_sL, gI_sD, gR_sI, gR_sR, gR_sL, gR_sD, gL_sI, gL_sR, gL_sL, gL_sD, gD_sI, gD_sR, gD_sL, gD_sD, isK_sI, isK_sR, isK_sL, isK_sD, inL_sI, inL_sR, inL_sL, inL_sD, nx_sI, nx_sR, nx_sL, nx_sD, kd_sI, kd_sR, kd_sL, kd_sD, ln_sI, ln_sR, ln_sL, ln_sD, ↓reduceIte, c8_n, c8_1, c8_2, c8_3, c8_4, Nat.reduceAdd, R.k, a1, fz, i1, i4, z0, z1, z2, z3, z4, z5, g1, g4, et, e, h7, R.r9, R.k122, q_ng _ R hj, R.nk hj, R.nz hj, N1.2.2.1.1, L.kd, q_zsize _ L, ek4, l5, Nat.reduceLeDiff, and_self, hr, hg0, k0, y0, y1, y2, y3, y4, xf, x0, x1, x2, x3, x4, vv 0 (by omega), vv 1 (by omega), vv 2 (by omega), vv 3 (by omega), vv 4 (by omega), hne, nz, false_and, and_false, Nat.reduceEqDiff, hg, N.2.2.2.2.1.k L.kd, u1]
end RSR
