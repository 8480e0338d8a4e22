/-! proles: the reference's objects by their roles: 0 the country's and the script's, 1 no one's, 2 the reference, 3 4 5 its lists, 6 7 8 their rows, 9 frames, 10 arrived ones, 11 bids; 16 + 8 i .. node i, its queue, its costs, its routes, its queue's row -/
def Lst (τ : Nat → Nat) (h : Hp) (l r : Nat) (E : Nat → Nat → Prop) (k c : Nat) : Prop := ∃ a, Li h l a k ∧ ((a = eD ∧ c = 0) ∨ (τ a = r ∧ ln h a = c ∧ a ≠ eD ∧ 0 < c)) ∧ ∀ j, j < k → ∃ f, gR h a j = some f ∧ isAny h (some f) = true ∧ E j f
def Ext (τ : Nat → Nat) (h : Hp) (τ' : Nat → Nat) (h' : Hp) : Prop := (∀ x, x < nx h → τ' x = τ x ∧ kd h' x = kd h x ∧ ln h' x = ln h x) ∧ nx h ≤ nx h'
def Ag (τ : Nat → Nat) (S : Nat → Prop) (h h' : Hp) : Prop := ∀ x, ¬ S (τ x) → ∀ k, gI h' x k = gI h x k ∧ gR h' x k = gR h x k ∧ gL h' x k = gL h x k
def Fs (τ : Nat → Nat) (h : Hp) : Prop := 125 ≤ nx h ∧ (∀ x, nx h ≤ x → τ x = 1) ∧ (∀ x, x < 121 → τ x = 0) ∧ τ 121 = 2 ∧ τ 122 = 3 ∧ τ 123 = 4 ∧ τ 124 = 5
def upr (τ : Nat → Nat) (q r : Nat) : Nat → Nat := fun x => if x = q then r else τ x
def MP (B : Nat) (K : Int32) (h : Hp) : Prop := isK h 121 kc_Mdl = true ∧ gR h 121 9 = some 122 ∧ gR h 121 10 = some 123 ∧ gR h 121 11 = some 124 ∧ gI h 121 1 = ii B ∧ B ≤ 2000 ∧ gI h 121 8 = K
def NL (τ : Nat → Nat) (n : Nat) (p : Nat → Nat) (h : Hp) : Prop := n ≤ 8 ∧ ∃ c, (c = 0 ∨ c = 10) ∧ Lst τ h 122 6 (fun j f => f = p j) n c
def NS (τ : Nat → Nat) (p : Nat → Nat) (h : Hp) (i : Nat) : Prop := (τ (p i) = 16 + 8 * i ∧ τ (p i + 1) = 17 + 8 * i ∧ τ (p i + 2) = 18 + 8 * i ∧ τ (p i + 3) = 19 + 8 * i) ∧ isK h (p i) kc_MNode = true ∧ (gR h (p i) 4 = some (p i + 1) ∧ gR h (p i) 16 = some (p i + 2) ∧ gR h (p i) 17 = some (p i + 3)) ∧ (isK h (p i + 2) 100 = true ∧ ln h (p i + 2) = 8) ∧ isK h (p i + 3) 100 = true ∧ ln h (p i + 3) = 8
def NR (n : Nat) (p : Nat → Nat) (h : Hp) (i : Nat) : Prop := ∀ j, j < 8 → gI h (p i + 3) j = -1 ∨ ∃ r, r < n ∧ gI h (p i + 3) j = ii r
def QL (τ : Nat → Nat) (p : Nat → Nat) (h : Hp) (i : Nat) : Prop := ∃ k c, k ≤ 4 ∧ (c = 0 ∨ c = 10) ∧ Lst τ h (p i + 1) (20 + 8 * i) (fun _ f => τ f = 9) k c
def VL (n : Nat) (p : Nat → Nat) (h : Hp) (i : Nat) : Prop := 0 < gI h (p i) 7 → (∃ x, x < n ∧ gI h (p i) 8 = ii x) ∧ ¬ gI h (p i + 1) 2 = 0
def NA (B : Nat) (p : Nat → Nat) (h : Hp) (i : Nat) : Prop := ∃ a, a ≤ B ∧ gI h (p i) 11 = ii a
def FRf (n : Nat) (h : Hp) (f : Nat) : Prop := isK h f 100 = true ∧ ln h f = 5 ∧ ∃ t, t < n ∧ gI h f 1 = ii t
def AEf (h : Hp) (f : Nat) : Prop := isK h f 100 = true ∧ ln h f = 2
def BEf (h : Hp) (f : Nat) : Prop := isK h f 100 = true ∧ ln h f = 3 ∧ ∃ b, b < 5 ∧ gI h f 0 = ii b
def AL (τ : Nat → Nat) (A c : Nat) (h : Hp) : Prop := ∃ k, k ≤ A ∧ ((c = 0 ∨ 10 ≤ c) ∧ c ≤ 20 + 2 * A) ∧ Lst τ h 123 7 (fun _ f => τ f = 10) k c
def BL (τ : Nat → Nat) (h : Hp) : Prop := ∃ k c, k ≤ 10 ∧ (c = 0 ∨ c = 10) ∧ Lst τ h 124 8 (fun _ f => τ f = 11) k c
def RM (τ : Nat → Nat) (n : Nat) (p : Nat → Nat) (A c B : Nat) (K : Int32) (h : Hp) : Prop := Fs τ h ∧ MP B K h ∧ NL τ n p h ∧ (∀ i, i < n → NS τ p h i ∧ NR n p h i ∧ QL τ p h i ∧ VL n p h i ∧ NA B p h i) ∧ (∀ f, τ f = 9 → FRf n h f) ∧ AL τ A c h ∧ (∀ f, τ f = 10 → AEf h f) ∧ BL τ h ∧ (∀ f, τ f = 11 → BEf h f)
section ROLES
variable {τ τ' τ2 : Nat → Nat} {h h' h2 : Hp} {S S' : Nat → Prop} {n A c B : Nat} {K : Int32} {p : Nat → Nat}
theorem Ext.refl (τ : Nat → Nat) (h : Hp) : Ext τ h τ h := ⟨fun _ _ => ⟨rfl, rfl, rfl⟩, Nat.le_refl _⟩
theorem Ext.trans (x : Ext τ h τ' h') (y : Ext τ' h' τ2 h2) : Ext τ h τ2 h2 := ⟨fun z hz => by
  obtain ⟨a1, a2, a3⟩ := x.1 z hz
  obtain ⟨b1, b2, b3⟩ := y.1 z (Nat.lt_of_lt_of_le hz x.2)
  exact ⟨b1.trans a1, b2.trans a2, b3.trans a3⟩, Nat.le_trans x.2 y.2⟩
theorem Ext.same (h1 : ∀ x, kd h' x = kd h x) (h2 : ∀ x, ln h' x = ln h x) (h3 : nx h' = nx h) : Ext τ h τ h' := ⟨fun x _ => ⟨rfl, h1 x, h2 x⟩, by omega⟩
theorem Ext.new (τ : Nat → Nat) (h : Hp) (c m s : Nat) : Ext τ h τ (hN h c m s) := ⟨fun x hx => ⟨rfl, by rw [kd_hN, if_neg (by omega)], by rw [ln_hN, if_neg (by omega)]⟩, by rw [nx_hN]; omega⟩
theorem Ext.newr (τ : Nat → Nat) (h : Hp) (c m s r : Nat) : Ext τ h (upr τ (nx h) r) (hN h c m s) := ⟨fun x hx => ⟨if_neg (by omega), by rw [kd_hN, if_neg (by omega)], by rw [ln_hN, if_neg (by omega)]⟩, by rw [nx_hN]; omega⟩
theorem Ext.k (x : Ext τ h τ' h') {a c : Nat} (hk : isK h a c = true) : isK h' a c = true := by
  obtain ⟨k1, k2⟩ := isK_spec hk
  exact isK_of (Nat.lt_of_lt_of_le k1 x.2) (by rw [(x.1 a k1).2.1]; exact k2)
theorem Ext.l (x : Ext τ h τ' h') {a c : Nat} (hk : isK h a c = true) : ln h' a = ln h a := (x.1 a (isK_spec hk).1).2.2
theorem isAny_lt {f : Nat} (hf : isAny h (some f) = true) : f < nx h := by
  unfold isAny at hf
  simp only [Bool.and_eq_true, decide_eq_true_eq] at hf
  exact hf.1.1
theorem Ext.any (x : Ext τ h τ' h') {f : Nat} (hf : isAny h (some f) = true) : isAny h' (some f) = true := by
  have hlt := isAny_lt hf
  unfold isAny at hf ⊢
  simp only [Bool.and_eq_true, decide_eq_true_eq] at hf ⊢
  rw [(x.1 f hlt).2.1]
  exact ⟨⟨Nat.lt_of_lt_of_le hlt x.2, hf.1.2⟩, hf.2⟩
theorem Ag.refl (S : Nat → Prop) (h : Hp) : Ag τ S h h := fun _ _ _ => ⟨rfl, rfl, rfl⟩
theorem Ag.mono (x : Ag τ S h h') (q : ∀ s, S s → S' s) : Ag τ S' h h' := fun z hz => x z (fun w => hz (q _ w))
theorem Ag.sI {a k : Nat} {v : Int32} (x : Ag τ S h h') (ha : S (τ a)) : Ag τ S h (sI h' a k v) := fun z hz j => by
  rw [gI_sI, gR_sI, gL_sI, if_neg (show ¬ (z = a ∧ j = k) from fun w => hz (w.1 ▸ ha))]
  exact x z hz j
theorem Ag.sR {a k : Nat} {v : Option Nat} (x : Ag τ S h h') (ha : S (τ a)) : Ag τ S h (sR h' a k v) := fun z hz j => by
  rw [gI_sR, gR_sR, gL_sR, if_neg (show ¬ (z = a ∧ j = k) from fun w => hz (w.1 ▸ ha))]
  exact x z hz j
theorem Ag.hN {c m s : Nat} (x : Ag τ S h h') (ha : S (τ (nx h'))) : Ag τ S h (hN h' c m s) := fun z hz j => by
  have : ¬ z = nx h' := fun w => hz (w ▸ ha)
  rw [gI_hN, gR_hN, gL_hN, if_neg this, if_neg this, if_neg this]
  exact x z hz j
theorem Fs.j (F : Fs τ h) {x : Nat} (hx : nx h ≤ x) : τ x = 1 := F.2.1 x hx
theorem Fs.lt (F : Fs τ h) {x : Nat} (hx : ¬ τ x = 1) : x < nx h := Nat.lt_of_not_le fun w => hx (F.2.1 x w)
theorem Fs.same (F : Fs τ h) (hn : nx h ≤ nx h') : Fs τ h' := ⟨Nat.le_trans F.1 hn, fun x hx => F.2.1 x (Nat.le_trans hn hx), F.2.2⟩
theorem Fs.up (F : Fs τ h) (r : Nat) (hn : nx h < nx h') : Fs (upr τ (nx h) r) h' := by
  have h1 := F.1
  refine ⟨by omega, fun x hx => ?_, fun x hx => ?_, ?_, ?_, ?_, ?_⟩ <;> unfold upr
  · rw [if_neg (by omega)]; exact F.2.1 x (by omega)
  · rw [if_neg (by omega)]; exact F.2.2.1 x hx
  · rw [if_neg (by omega)]; exact F.2.2.2.1
  · rw [if_neg (by omega)]; exact F.2.2.2.2.1
  · rw [if_neg (by omega)]; exact F.2.2.2.2.2.1
  · rw [if_neg (by omega)]; exact F.2.2.2.2.2.2
theorem Ag.trans (F : Fs τ h) (x : Ag τ S h h') (e : Ext τ h τ' h') (hS : S 1) (y : Ag τ' S h' h2) : Ag τ S h h2 := fun z hz k => by
  obtain ⟨a1, a2, a3⟩ := x z hz k
  have hlt : z < nx h := F.lt (fun w => hz (w ▸ hS))
  obtain ⟨b1, b2, b3⟩ := y z (by rw [(e.1 z hlt).1]; exact hz) k
  exact ⟨b1.trans a1, b2.trans a2, b3.trans a3⟩
theorem Lst.fr {l r k : Nat} {E E' : Nat → Nat → Prop} (L : Lst τ h l r E k c) (X : Ext τ h τ' h') (G : Ag τ S h h') (h1 : ¬ S (τ l)) (h2 : ¬ S r) (hE : ∀ j f, f < nx h → E j f → E' j f) : Lst τ' h' l r E' k c := by
  obtain ⟨a, L1, hc, he⟩ := L
  have hkl := L1.k
  refine ⟨a, ⟨X.k hkl, by rw [(G l h1 1).2.1]; exact L1.r, by rw [(G l h1 2).1]; exact L1.s, L1.b, ?_⟩, ?_, fun j hj => ?_⟩
  · rcases L1.d with d | ⟨d1, d2, d3, d4, d5⟩
    · exact Or.inl d
    · exact Or.inr ⟨X.k d1, by rw [X.l d1]; exact d2, d3, d4, by rw [X.l d1]; exact d5⟩
  · rcases hc with d | ⟨d1, d2, d3⟩
    · exact Or.inl d
    · rcases L1.d with e | ⟨e1, -⟩
      · exact absurd e.1 d3.1
      · exact Or.inr ⟨by rw [(X.1 a (isK_spec e1).1).1]; exact d1, by rw [X.l e1]; exact d2, d3⟩
  · obtain ⟨f, f1, f2, f3⟩ := he j hj
    have ha : τ a = r := by
      rcases hc with ⟨d1, -⟩ | ⟨d1, -⟩
      · rcases L1.d with e | e
        · omega
        · exact absurd d1 e.2.2.2.1
      · exact d1
    exact ⟨f, by rw [(G a (by rw [ha]; exact h2) j).2.1]; exact f1, X.any f2, hE j f (isAny_lt f2) f3⟩
theorem MP.fr (M : MP B K h) (F : Fs τ h) (X : Ext τ h τ' h') (G : Ag τ S h h') (h2 : ¬ S 2) : MP B K h' := by
  obtain ⟨m1, m2, m3, m4, m5, m6, m7⟩ := M
  have e : ¬ S (τ 121) := by rw [F.2.2.2.1]; exact h2
  exact ⟨X.k m1, by rw [(G _ e 9).2.1]; exact m2, by rw [(G _ e 10).2.1]; exact m3, by rw [(G _ e 11).2.1]; exact m4, by rw [(G _ e 1).1]; exact m5, m6, by rw [(G _ e 8).1]; exact m7⟩
theorem NL.fr (N : NL τ n p h) (F : Fs τ h) (X : Ext τ h τ' h') (G : Ag τ S h h') (h3 : ¬ S 3) (h6 : ¬ S 6) : NL τ' n p h' := by
  obtain ⟨n1, c, c1, L⟩ := N
  exact ⟨n1, c, c1, L.fr X G (by rw [F.2.2.2.2.1]; exact h3) h6 fun _ _ _ q => q⟩
theorem NS.fr {i : Nat} (N : NS τ p h i) (X : Ext τ h τ' h') (G : Ag τ S h h') (h0 : ¬ S (16 + 8 * i)) : NS τ' p h' i := by
  obtain ⟨⟨t0, t1, t2, t3⟩, k0, ⟨r1, r2, r3⟩, ⟨c1, c2⟩, d1, d2⟩ := N
  have e : ¬ S (τ (p i)) := by rw [t0]; exact h0
  have l3 := (isK_spec d1).1
  exact ⟨⟨by rw [(X.1 _ (by omega)).1]; exact t0, by rw [(X.1 _ (by omega)).1]; exact t1, by rw [(X.1 _ (by omega)).1]; exact t2, by rw [(X.1 _ (by omega)).1]; exact t3⟩, X.k k0,
    ⟨by rw [(G _ e 4).2.1]; exact r1, by rw [(G _ e 16).2.1]; exact r2, by rw [(G _ e 17).2.1]; exact r3⟩, ⟨X.k c1, by rw [X.l c1]; exact c2⟩, X.k d1, by rw [X.l d1]; exact d2⟩
theorem NR.fr {i : Nat} (N : NR n p h i) (K : NS τ p h i) (G : Ag τ S h h') (h0 : ¬ S (19 + 8 * i)) : NR n p h' i := fun j hj => by
  rw [(G _ (by rw [K.1.2.2.2]; exact h0) j).1]
  exact N j hj
theorem QL.fr {i : Nat} (N : QL τ p h i) (K : NS τ p h i) (X : Ext τ h τ' h') (G : Ag τ S h h') (h0 : ¬ S (17 + 8 * i)) (h1 : ¬ S (20 + 8 * i)) : QL τ' p h' i := by
  obtain ⟨k, c, k1, c1, L⟩ := N
  exact ⟨k, c, k1, c1, L.fr X G (by rw [K.1.2.1]; exact h0) h1 fun _ f hf q => by rw [(X.1 f hf).1]; exact q⟩
theorem VL.fr {i : Nat} (N : VL n p h i) (K : NS τ p h i) (G : Ag τ S h h') (h0 : ¬ S (16 + 8 * i)) (h1 : ¬ S (17 + 8 * i)) : VL n p h' i := by
  unfold VL
  have e : ¬ S (τ (p i)) := by rw [K.1.1]; exact h0
  rw [(G _ e 7).1, (G _ e 8).1, (G _ (by rw [K.1.2.1]; exact h1) 2).1]
  exact N
theorem NA.fr {i : Nat} (N : NA B p h i) (K : NS τ p h i) (G : Ag τ S h h') (h0 : ¬ S (16 + 8 * i)) : NA B p h' i := by
  obtain ⟨a, a1, a2⟩ := N
  exact ⟨a, a1, by rw [(G _ (by rw [K.1.1]; exact h0) 11).1]; exact a2⟩
theorem FRf.fr {f : Nat} (N : FRf n h f) (X : Ext τ h τ' h') (G : Ag τ S h h') (h0 : ¬ S (τ f)) : FRf n h' f := by
  obtain ⟨a, b, t, t1, t2⟩ := N
  exact ⟨X.k a, by rw [X.l a]; exact b, t, t1, by rw [(G _ h0 1).1]; exact t2⟩
theorem AEf.fr {f : Nat} (N : AEf h f) (X : Ext τ h τ' h') : AEf h' f := ⟨X.k N.1, by rw [X.l N.1]; exact N.2⟩
theorem BEf.fr {f : Nat} (N : BEf h f) (X : Ext τ h τ' h') (G : Ag τ S h h') (h0 : ¬ S (τ f)) : BEf h' f := by
  obtain ⟨a, b, t, t1, t2⟩ := N
  exact ⟨X.k a, by rw [X.l a]; exact b, t, t1, by rw [(G _ h0 0).1]; exact t2⟩
theorem AL.fr (N : AL τ A c h) (F : Fs τ h) (X : Ext τ h τ' h') (G : Ag τ S h h') (h0 : ¬ S 4) (h1 : ¬ S 7) : AL τ' A c h' := by
  obtain ⟨k, k1, c1, L⟩ := N
  exact ⟨k, k1, c1, L.fr X G (by rw [F.2.2.2.2.2.1]; exact h0) h1 fun _ f hf q => by rw [(X.1 f hf).1]; exact q⟩
theorem BL.fr (N : BL τ h) (F : Fs τ h) (X : Ext τ h τ' h') (G : Ag τ S h h') (h0 : ¬ S 5) (h1 : ¬ S 8) : BL τ' h' := by
  obtain ⟨k, c, k1, c1, L⟩ := N
  exact ⟨k, c, k1, c1, L.fr X G (by rw [F.2.2.2.2.2.2]; exact h0) h1 fun _ f hf q => by rw [(X.1 f hf).1]; exact q⟩
/-- a change at the queue of node i: its list, its row, new frames -/
theorem RM.queue {i : Nat} (R : RM τ n p A c B K h) (F' : Fs τ' h') (X : Ext τ h τ' h') (G : Ag τ (fun s => s = 1 ∨ s = 17 + 8 * i ∨ s = 20 + 8 * i) h h') (h9 : ∀ f, nx h ≤ f → τ' f = 9 → FRf n h' f) (h10 : ∀ f, nx h ≤ f → ¬ τ' f = 10) (h11 : ∀ f, nx h ≤ f → ¬ τ' f = 11)
    (q : i < n → QL τ' p h' i) (v : i < n → VL n p h' i) : RM τ' n p A c B K h' := by
  obtain ⟨F, M, N, D, Fr9, AL1, AE1, BL1, BE1⟩ := R
  refine ⟨F', M.fr F X G (by omega), N.fr F X G (by omega) (by omega), fun j hj => ?_, fun f hf => ?_, AL1.fr F X G (by omega) (by omega), fun f hf => ?_, BL1.fr F X G (by omega) (by omega), fun f hf => ?_⟩
  · obtain ⟨d1, d2, d3, d4, d5⟩ := D j hj
    by_cases e : j = i
    · subst e
      exact ⟨d1.fr X G (by omega), d2.fr d1 G (by omega), q hj, v hj, d5.fr d1 G (by omega)⟩
    · exact ⟨d1.fr X G (by omega), d2.fr d1 G (by omega), d3.fr d1 X G (by omega) (by omega), d4.fr d1 G (by omega) (by omega), d5.fr d1 G (by omega)⟩
  · by_cases hlt : f < nx h
    · rw [(X.1 f hlt).1] at hf
      exact (Fr9 f hf).fr X G (by omega)
    · exact h9 f (by omega) hf
  · by_cases hlt : f < nx h
    · rw [(X.1 f hlt).1] at hf
      exact (AE1 f hf).fr X
    · exact absurd hf (h10 f (by omega))
  · by_cases hlt : f < nx h
    · rw [(X.1 f hlt).1] at hf
      exact (BE1 f hf).fr X G (by omega)
    · exact absurd hf (h11 f (by omega))
/-- a change at the arrived ones -/
theorem RM.arr {A' c' : Nat} (R : RM τ n p A c B K h) (F' : Fs τ' h') (X : Ext τ h τ' h') (G : Ag τ (fun s => s = 1 ∨ s = 4 ∨ s = 7) h h') (h9 : ∀ f, nx h ≤ f → ¬ τ' f = 9) (h10 : ∀ f, nx h ≤ f → τ' f = 10 → AEf h' f) (h11 : ∀ f, nx h ≤ f → ¬ τ' f = 11)
    (q : AL τ' A' c' h') : RM τ' n p A' c' B K h' := by
  obtain ⟨F, M, N, D, Fr9, AL1, AE1, BL1, BE1⟩ := R
  refine ⟨F', M.fr F X G (by omega), N.fr F X G (by omega) (by omega), fun j hj => ?_, fun f hf => ?_, q, fun f hf => ?_, BL1.fr F X G (by omega) (by omega), fun f hf => ?_⟩
  · obtain ⟨d1, d2, d3, d4, d5⟩ := D j hj
    exact ⟨d1.fr X G (by omega), d2.fr d1 G (by omega), d3.fr d1 X G (by omega) (by omega), d4.fr d1 G (by omega) (by omega), d5.fr d1 G (by omega)⟩
  · by_cases hlt : f < nx h
    · rw [(X.1 f hlt).1] at hf
      exact (Fr9 f hf).fr X G (by omega)
    · exact absurd hf (h9 f (by omega))
  · by_cases hlt : f < nx h
    · rw [(X.1 f hlt).1] at hf
      exact (AE1 f hf).fr X
    · exact h10 f (by omega) hf
  · by_cases hlt : f < nx h
    · rw [(X.1 f hlt).1] at hf
      exact (BE1 f hf).fr X G (by omega)
    · exact absurd hf (h11 f (by omega))
/-- a change at the bids -/
theorem RM.bids (R : RM τ n p A c B K h) (F' : Fs τ' h') (X : Ext τ h τ' h') (G : Ag τ (fun s => s = 1 ∨ s = 5 ∨ s = 8) h h') (h9 : ∀ f, nx h ≤ f → ¬ τ' f = 9) (h10 : ∀ f, nx h ≤ f → ¬ τ' f = 10) (h11 : ∀ f, nx h ≤ f → τ' f = 11 → BEf h' f)
    (q : BL τ' h') : RM τ' n p A c B K h' := by
  obtain ⟨F, M, N, D, Fr9, AL1, AE1, BL1, BE1⟩ := R
  refine ⟨F', M.fr F X G (by omega), N.fr F X G (by omega) (by omega), fun j hj => ?_, fun f hf => ?_, AL1.fr F X G (by omega) (by omega), fun f hf => ?_, q, fun f hf => ?_⟩
  · obtain ⟨d1, d2, d3, d4, d5⟩ := D j hj
    exact ⟨d1.fr X G (by omega), d2.fr d1 G (by omega), d3.fr d1 X G (by omega) (by omega), d4.fr d1 G (by omega) (by omega), d5.fr d1 G (by omega)⟩
  · by_cases hlt : f < nx h
    · rw [(X.1 f hlt).1] at hf
      exact (Fr9 f hf).fr X G (by omega)
    · exact absurd hf (h9 f (by omega))
  · by_cases hlt : f < nx h
    · rw [(X.1 f hlt).1] at hf
      exact (AE1 f hf).fr X
    · exact absurd hf (h10 f (by omega))
  · by_cases hlt : f < nx h
    · rw [(X.1 f hlt).1] at hf
      exact (BE1 f hf).fr X G (by omega)
    · exact h11 f (by omega) hf
/-- what a soft write may change: of no one's all, of the reference all but its slot and refused, of a node all but left, next and air, its costs -/
def OW (r k : Nat) : Prop := r = 1 ∨ (r = 2 ∧ k ≠ 1 ∧ k ≠ 8) ∨ (16 ≤ r ∧ r % 8 = 0 ∧ k ≠ 7 ∧ k ≠ 8 ∧ k ≠ 11) ∨ (16 ≤ r ∧ r % 8 = 2)
def Sw (τ : Nat → Nat) (h h' : Hp) : Prop := Ext τ h τ h' ∧ (∀ x k, ¬ OW (τ x) k → gI h' x k = gI h x k) ∧ (∀ x k, ¬ τ x = 1 → gR h' x k = gR h x k ∧ gL h' x k = gL h x k)
theorem Sw.refl (τ : Nat → Nat) (h : Hp) : Sw τ h h := ⟨Ext.refl τ h, fun _ _ _ => rfl, fun _ _ _ => ⟨rfl, rfl⟩⟩
theorem Sw.trans (x : Sw τ h h') (y : Sw τ h' h2) : Sw τ h h2 := ⟨x.1.trans y.1, fun z k q => (y.2.1 z k q).trans (x.2.1 z k q), fun z k q => ⟨(y.2.2 z k q).1.trans (x.2.2 z k q).1, (y.2.2 z k q).2.trans (x.2.2 z k q).2⟩⟩
theorem Sw.sI {a k : Nat} {v : Int32} (x : Sw τ h h') (ha : OW (τ a) k) : Sw τ h (sI h' a k v) := ⟨x.1.trans (Ext.same (fun _ => rfl) (fun _ => rfl) rfl), fun z j q => by
  rw [gI_sI, if_neg (fun w => q (by rw [w.1, w.2]; exact ha))]
  exact x.2.1 z j q, x.2.2⟩
theorem Sw.sR {a k : Nat} {v : Option Nat} (x : Sw τ h h') (ha : τ a = 1) : Sw τ h (sR h' a k v) := ⟨x.1.trans (Ext.same (fun _ => rfl) (fun _ => rfl) rfl), x.2.1, fun z j q => by
  rw [gR_sR, if_neg (fun w => q (by rw [w.1]; exact ha))]
  exact x.2.2 z j q⟩
theorem Sw.hN {c m s : Nat} (x : Sw τ h h') (ha : τ (nx h') = 1) : Sw τ h (hN h' c m s) := ⟨x.1.trans (Ext.new _ _ _ _ _), fun z j q => by
  rw [gI_hN, if_neg (fun w => q (by rw [w]; exact Or.inl ha))]
  exact x.2.1 z j q, fun z j q => by
  have : ¬ z = nx h' := fun w => q (by rw [w]; exact ha)
  rw [gR_hN, gL_hN, if_neg this, if_neg this]
  exact x.2.2 z j q⟩
theorem Sw.ag (x : Sw τ h h') (hS : ∀ z, ¬ S z → ∀ k, ¬ OW z k) : Ag τ S h h' := fun z hz k => by
  have := hS _ hz k
  exact ⟨x.2.1 z k this, x.2.2 z k (fun w => this (Or.inl w))⟩
/-- what is no one's alone is changed -/
def Jk (τ : Nat → Nat) (h h' : Hp) : Prop := Ext τ h τ h' ∧ Ag τ (fun s => s = 1) h h'
theorem Jk.refl (τ : Nat → Nat) (h : Hp) : Jk τ h h := ⟨Ext.refl τ h, Ag.refl _ h⟩
theorem Jk.trans (x : Jk τ h h') (y : Jk τ h' h2) : Jk τ h h2 := ⟨x.1.trans y.1, fun z hz k => by
  obtain ⟨a1, a2, a3⟩ := x.2 z hz k
  obtain ⟨b1, b2, b3⟩ := y.2 z hz k
  exact ⟨b1.trans a1, b2.trans a2, b3.trans a3⟩⟩
theorem Jk.sI {a k : Nat} {v : Int32} (x : Jk τ h h') (ha : τ a = 1) : Jk τ h (sI h' a k v) := ⟨x.1.trans (Ext.same (fun _ => rfl) (fun _ => rfl) rfl), x.2.sI ha⟩
theorem Jk.sR {a k : Nat} {v : Option Nat} (x : Jk τ h h') (ha : τ a = 1) : Jk τ h (sR h' a k v) := ⟨x.1.trans (Ext.same (fun _ => rfl) (fun _ => rfl) rfl), x.2.sR ha⟩
theorem Jk.hN {c m s : Nat} (x : Jk τ h h') (ha : τ (nx h') = 1) : Jk τ h (hN h' c m s) := ⟨x.1.trans (Ext.new _ _ _ _ _), x.2.hN ha⟩
theorem Jk.sw (x : Jk τ h h') : Sw τ h h' := ⟨x.1, fun z k q => (x.2 z (fun w => q (Or.inl w)) k).1, fun z k q => (x.2 z q k).2⟩
theorem Ag.jk (x : Ag τ S h h') (hS : S 1) (y : Jk τ h' h2) : Ag τ S h h2 := fun z hz k => by
  obtain ⟨a1, a2, a3⟩ := x z hz k
  obtain ⟨b1, b2, b3⟩ := y.2 z (fun w => hz (by rw [w]; exact hS)) k
  exact ⟨b1.trans a1, b2.trans a2, b3.trans a3⟩
theorem RM.sw (R : RM τ n p A c B K h) (x : Sw τ h h') : RM τ n p A c B K h' := by
  obtain ⟨F, M, N, D, Fr9, AL1, AE1, BL1, BE1⟩ := R
  have F' : Fs τ h' := F.same x.1.2
  have X := x.1
  have G : Ag τ (fun s => ∃ k, OW s k) h h' := x.ag fun z hz k w => hz ⟨k, w⟩
  have no : ∀ s, ¬ s = 1 → ¬ s = 2 → ¬ (16 ≤ s ∧ s % 8 = 0) → ¬ (16 ≤ s ∧ s % 8 = 2) → ¬ ∃ k, OW s k := fun s h1 h2 h3 h4 ⟨k, w⟩ => by
    unfold OW at w
    omega
  refine ⟨F', ?_, N.fr F X G (no _ (by omega) (by omega) (by omega) (by omega)) (no _ (by omega) (by omega) (by omega) (by omega)), fun j hj => ?_, fun f hf => (Fr9 f hf).fr X G (by rw [hf]; exact no _ (by omega) (by omega) (by omega) (by omega)), AL1.fr F X G (no _ (by omega) (by omega) (by omega) (by omega)) (no _ (by omega) (by omega) (by omega) (by omega)), fun f hf => (AE1 f hf).fr X, BL1.fr F X G (no _ (by omega) (by omega) (by omega) (by omega)) (no _ (by omega) (by omega) (by omega) (by omega)), fun f hf => (BE1 f hf).fr X G (by rw [hf]; exact no _ (by omega) (by omega) (by omega) (by omega))⟩
  · obtain ⟨m1, m2, m3, m4, m5, m6, m7⟩ := M
    have e : ¬ τ 121 = 1 := by rw [F.2.2.2.1]; omega
    exact ⟨X.k m1, by rw [(x.2.2 _ 9 e).1]; exact m2, by rw [(x.2.2 _ 10 e).1]; exact m3, by rw [(x.2.2 _ 11 e).1]; exact m4, by rw [x.2.1 121 1 (by rw [F.2.2.2.1]; unfold OW; omega)]; exact m5, m6, by rw [x.2.1 121 8 (by rw [F.2.2.2.1]; unfold OW; omega)]; exact m7⟩
  · obtain ⟨d1, d2, d3, d4, d5⟩ := D j hj
    obtain ⟨⟨t0, t1, t2, t3⟩, k0, ⟨r1, r2, r3⟩, ⟨c1, c2⟩, e1, e2⟩ := id d1
    have e : ¬ τ (p j) = 1 := by rw [t0]; omega
    have l3 := (isK_spec e1).1
    refine ⟨⟨⟨t0, t1, t2, t3⟩, X.k k0, ⟨by rw [(x.2.2 _ 4 e).1]; exact r1, by rw [(x.2.2 _ 16 e).1]; exact r2, by rw [(x.2.2 _ 17 e).1]; exact r3⟩, ⟨X.k c1, by rw [X.l c1]; exact c2⟩, X.k e1, by rw [X.l e1]; exact e2⟩, d2.fr d1 G (no _ (by omega) (by omega) (by omega) (by omega)), d3.fr d1 X G (no _ (by omega) (by omega) (by omega) (by omega)) (no _ (by omega) (by omega) (by omega) (by omega)), ?_, ?_⟩
    · unfold VL
      rw [x.2.1 (p j) 7 (by rw [t0]; unfold OW; omega), x.2.1 (p j) 8 (by rw [t0]; unfold OW; omega), x.2.1 (p j + 1) 2 (by rw [t1]; unfold OW; omega)]
      exact d4
    · unfold NA
      rw [x.2.1 (p j) 11 (by rw [t0]; unfold OW; omega)]
      exact d5
/-- a change at node i's own cells -/
theorem RM.node {i : Nat} (R : RM τ n p A c B K h) (X : Ext τ h τ h') (G : Ag τ (fun s => s = 1 ∨ s = 16 + 8 * i) h h') (hr : ∀ k, gR h' (p i) k = gR h (p i) k) (v : i < n → VL n p h' i) (a : i < n → NA B p h' i) : RM τ n p A c B K h' := by
  obtain ⟨F, M, N, D, Fr9, AL1, AE1, BL1, BE1⟩ := R
  refine ⟨F.same X.2, M.fr F X G (by omega), N.fr F X G (by omega) (by omega), fun j hj => ?_, fun f hf => (Fr9 f hf).fr X G (by omega), AL1.fr F X G (by omega) (by omega), fun f hf => (AE1 f hf).fr X, BL1.fr F X G (by omega) (by omega), fun f hf => (BE1 f hf).fr X G (by omega)⟩
  obtain ⟨d1, d2, d3, d4, d5⟩ := D j hj
  by_cases e : j = i
  · subst e
    obtain ⟨⟨t0, t1, t2, t3⟩, k0, ⟨r1, r2, r3⟩, ⟨c1, c2⟩, e1, e2⟩ := id d1
    exact ⟨⟨⟨t0, t1, t2, t3⟩, X.k k0, ⟨by rw [hr]; exact r1, by rw [hr]; exact r2, by rw [hr]; exact r3⟩, ⟨X.k c1, by rw [X.l c1]; exact c2⟩, X.k e1, by rw [X.l e1]; exact e2⟩, d2.fr d1 G (by omega), d3.fr d1 X G (by omega) (by omega), v hj, a hj⟩
  · exact ⟨d1.fr X G (by omega), d2.fr d1 G (by omega), d3.fr d1 X G (by omega) (by omega), d4.fr d1 G (by omega) (by omega), d5.fr d1 G (by omega)⟩
end ROLES
