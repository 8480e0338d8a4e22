/-! xca: how the country keeps what is so, in values -/
def hs9 (n : Nat) (α : As) (j : Nat) : Int32 := upto (fun k s => if hr9 α k j = true then s ||| bitN k else s) n 0 0
section XCA
variable {n c : Nat} {h h' : Hp} {α β : As}
def Cf (n : Nat) (h : Hp) (α : As) : Prop := ∀ i, i < n → ∀ f, f ≤ 14 → f ≠ 4 → gI h (5 + 9 * i) f = α.1 i f
def Cq (h : Hp) (α : As) (i : Nat) : Prop := gI h (6 + 9 * i) 1 = ii (α.2.1 i) ∧ α.2.1 i ≤ 4 ∧ ∀ k, k < α.2.1 i → ∃ f, f < 4 ∧ gR h (7 + 9 * i) k = some (8 + 9 * i + f) ∧ ∀ w, w < 5 → gI h (8 + 9 * i + f) w = α.2.2.1 i k w
def Cp (h : Hp) : Prop := ∀ i, i < 8 → ∀ k l, k < 4 → l < 4 → gR h (7 + 9 * i) k = gR h (7 + 9 * i) l → k = l
def Ch (n : Nat) (h : Hp) (α : As) : Prop := ∀ j, j < n → gI h 4 j = hs9 n α j
def Cg (h : Hp) (α : As) : Prop := (∀ k, 2 ≤ k → k ≤ 6 → gI h 114 k = α.1 50 k) ∧ gI h 77 5 = α.1 50 7 ∧ gI h 115 8 = α.1 50 8
def Ca (n : Nat) (h : Hp) (α : As) : Prop := ∀ i k, i < n → k < 512 → mb h i k = α.2.2.2 i k
def Cn (n : Nat) (h : Hp) (t : Nat) : Prop := ∀ i j, i < 8 → j < 8 → (n ≤ i ∨ n ≤ j ∨ i = j) → gI h (t + 1 + i) j = -1 ∧ gI h (t + 9 + 1 + i) j = -1
def Cw (n : Nat) (h : Hp) (α : As) (c : Nat) : Prop := ∀ i, i < n → ∀ j, j < 8 → gI h (c + 1 + i) j = α.1 (60 + i) j ∧ gI h (c + 9 + 1 + i) j = α.1 (70 + i) j
def Cc (n : Nat) (h : Hp) (α : As) : Prop := ∃ c, Rt h c ∧ Cw n h α c ∧ Cn n h c ∧ Cn n h (174 - c)
def Cz (n : Nat) (h : Hp) : Prop := ∀ i, n ≤ i → i < 8 → gI h (5 + 9 * i) 5 = 0 ∧ gI h (5 + 9 * i) 8 = -1 ∧ gI h (5 + 9 * i) 9 = 0
def Cb (n : Nat) (α : As) : Prop := ∀ i, i < n → (α.1 i 9 = 0 ∨ α.1 i 9 = 1) ∧ ∀ j, j < 8 → α.1 (70 + i) j = -1 → α.1 (60 + i) j = -1
def CA (n : Nat) (h : Hp) (α : As) : Prop := Cf n h α ∧ (∀ i, i < n → Cq h α i) ∧ Cp h ∧ Ch n h α ∧ Cg h α ∧ Ca n h α ∧ Cc n h α ∧ Cz n h ∧ Cb n α
theorem Cf.fr (V : Cf n h α) (e : ∀ i f, i < n → f ≤ 14 → gI h' (5 + 9 * i) f = gI h (5 + 9 * i) f) : Cf n h' α := fun i hi f h1 h2 => (e i f hi h1).trans (V i hi f h1 h2)
theorem Cq.fr {i : Nat} (V : Cq h α i) (e1 : gI h' (6 + 9 * i) 1 = gI h (6 + 9 * i) 1) (e2 : ∀ a k, 8 + 9 * i ≤ a → a < 12 + 9 * i → gI h' a k = gI h a k) (e3 : ∀ k, k < 4 → gR h' (7 + 9 * i) k = gR h (7 + 9 * i) k) : Cq h' α i := by
  obtain ⟨v1, v2, v3⟩ := V
  refine ⟨by rw [e1]; exact v1, v2, fun k hk => ?_⟩
  obtain ⟨f, f1, f2, f3⟩ := v3 k hk
  exact ⟨f, f1, by rw [e3 k (by omega)]; exact f2, fun w hw => by rw [e2 _ _ (by omega) (by omega)]; exact f3 w hw⟩
theorem Cp.fr (V : Cp h) (e3 : ∀ i k, i < 8 → k < 4 → gR h' (7 + 9 * i) k = gR h (7 + 9 * i) k) : Cp h' := fun i hi k l hk hl q => by
  rw [e3 i k hi hk, e3 i l hi hl] at q
  exact V i hi k l hk hl q
theorem Cc.fr (V : Cc n h α) (hn : n ≤ 8) (e1 : ∀ a k, 78 ≤ a → a < 114 → gI h' a k = gI h a k) (e2 : ∀ k, gR h' 77 k = gR h 77 k) : Cc n h' α := by
  obtain ⟨c, R, w1, w2, w3⟩ := V
  have hcc := R.1
  exact ⟨c, R.fr e2, fun i hi j hj => by rw [e1 _ _ (by omega) (by omega), e1 _ _ (by omega) (by omega)]; exact w1 i hi j hj, fun i j hi hj q => by rw [e1 _ _ (by omega) (by omega), e1 _ _ (by omega) (by omega)]; exact w2 i j hi hj q, fun i j hi hj q => by rw [e1 _ _ (by omega) (by omega), e1 _ _ (by omega) (by omega)]; exact w3 i j hi hj q⟩
theorem Cz.fr (V : Cz n h) (e : ∀ i f, i < 8 → n ≤ i → gI h' (5 + 9 * i) f = gI h (5 + 9 * i) f) : Cz n h' := fun i h1 h2 => by
  rw [e i 5 h2 h1, e i 8 h2 h1, e i 9 h2 h1]
  exact V i h1 h2
theorem hs_congr (e : ∀ a k, a < n → k ≤ 2 → β.1 a k = α.1 a k) {j : Nat} (hj : j < n) : hs9 n β j = hs9 n α j := by
  unfold hs9
  refine upto_congr n 0 0 fun k s _ hk => ?_
  have eh : hr9 β k j = hr9 α k j := hr_congr fun a f ha hf => e a f (by omega) hf
  rw [eh]
theorem hs_tb {i j : Nat} (hn : n ≤ 8) (hi : i < 32) : tb (hs9 n α j) i = (decide (i < n) && hr9 α i j) := by
  unfold hs9
  rw [upto_bits (fun k => hr9 α k j) hi n 0 0 (by omega), tb_0 hi]
  simp
theorem ca_ch (V : CA n h α) (hn : n ≤ 8) {i j : Nat} (hi : i < n) (hj : j < n) : chF n h i j = hr9 α i j := by
  unfold chF
  rw [V.2.2.2.1 j hj, hs_tb hn (by omega), decide_eq_true hi, decide_eq_true hj]
  rfl
theorem ca_fX (V : CA n h α) {i j : Nat} (hi : i < n) (hj : j < n) : farF h i j = fX α i j := by
  unfold farF fX
  rw [V.1 i hi 0 (by omega) (by omega), V.1 j hj 0 (by omega) (by omega), V.1 i hi 1 (by omega) (by omega), V.1 j hj 1 (by omega) (by omega)]
/-- nothing that is looked at is changed -/
theorem CA.same (V : CA n h α) (hn : n ≤ 8) (eI : ∀ a k, 4 ≤ a → a < 115 → gI h' a k = gI h a k) (e8 : gI h' 115 8 = gI h 115 8) (eR : ∀ a k, a < 115 → gR h' a k = gR h a k) (eL : ∀ a k, a < 77 → gL h' a k = gL h a k) : CA n h' α := by
  obtain ⟨v1, v2, v3, v4, ⟨v5, v6, v7⟩, v8, v9, v10, v11⟩ := V
  exact ⟨v1.fr fun i f hi hf => eI _ _ (by omega) (by omega), fun i hi => (v2 i hi).fr (eI _ _ (by omega) (by omega)) (fun a k _ _ => eI _ _ (by omega) (by omega)) (fun k _ => eR _ _ (by omega)), v3.fr fun i k hi hk => eR _ _ (by omega), fun j hj => (eI _ _ (by omega) (by omega)).trans (v4 j hj), ⟨fun k h1 h2 => (eI _ _ (by omega) (by omega)).trans (v5 k h1 h2), (eI _ _ (by omega) (by omega)).trans v6, e8.trans v7⟩, fun i k hi hk => by
    have := v8 i k hi hk
    unfold mb at this ⊢
    rw [eL _ _ (by omega)]
    exact this, v9.fr hn (fun a k _ _ => eI _ _ (by omega) (by omega)) (fun k => eR _ _ (by omega)), v10.fr fun i f _ _ => eI _ _ (by omega) (by omega), v11⟩
theorem CA.ex (V : CA n h α) (S : Str n h) (E : Ex h h') : CA n h' α := by
  have hx := S.1.1
  exact V.same (n8 S) (fun a k _ _ => (E.1 a k (by omega)).1) (E.1 _ _ (by omega)).1 (fun a k _ => (E.1 a k (by omega)).2.1) (fun a k _ => (E.1 a k (by omega)).2.2)
/-- node i's own cells are written -/
theorem CA.node {i : Nat} (V : CA n h α) (hn : n ≤ 8) (hi : i < n) (F : Fr (fun a k => a = 5 + 9 * i ∧ 3 ≤ k) nW nW h h') (e2 : β.2 = α.2) (e1 : ∀ a k, ¬ (a = i ∧ 3 ≤ k) → β.1 a k = α.1 a k) (e3 : ∀ f, 3 ≤ f → f ≤ 14 → f ≠ 4 → gI h' (5 + 9 * i) f = β.1 i f) (e9 : β.1 i 9 = 0 ∨ β.1 i 9 = 1) : CA n h' β := by
  obtain ⟨v1, v2, v3, v4, ⟨v5, v6, v7⟩, v8, v9, v10, v11⟩ := V
  have eI : ∀ a k, ¬ (a = 5 + 9 * i ∧ 3 ≤ k) → gI h' a k = gI h a k := fun a k q => F.1 a k q
  have q1 : β.2.1 = α.2.1 := by rw [e2]
  have q2 : β.2.2.1 = α.2.2.1 := by rw [e2]
  have q3 : β.2.2.2 = α.2.2.2 := by rw [e2]
  refine ⟨fun j hj f h1 h2 => ?_, fun j hj => ?_, v3.fr fun j k _ _ => F.2.1 _ _ (fun w => w), fun j hj => ?_, ⟨fun k h1 h2 => ?_, ?_, ?_⟩, fun j k hj hk => ?_, ?_, v10.fr fun j f h1 h2 => eI _ _ (by omega), fun j hj => ?_⟩
  · by_cases e : j = i ∧ 3 ≤ f
    · obtain ⟨rfl, e⟩ := e
      exact e3 f e h1 h2
    · rw [eI _ _ (by omega), e1 _ _ e]
      exact v1 j hj f h1 h2
  · have := (v2 j hj).fr (h' := h') (eI _ _ (by omega)) (fun a k _ _ => eI _ _ (by omega)) (fun k _ => F.2.1 _ _ (fun w => w))
    unfold Cq at this ⊢
    rw [q1, q2]
    exact this
  · rw [eI _ _ (by omega), v4 j hj]
    exact (hs_congr (fun a k _ hk => e1 a k (by omega)) hj).symm
  · rw [eI _ _ (by omega), e1 _ _ (by omega)]; exact v5 k h1 h2
  · rw [eI _ _ (by omega), e1 _ _ (by omega)]; exact v6
  · rw [eI _ _ (by omega), e1 _ _ (by omega)]; exact v7
  · rw [q3, ← v8 j k hj hk]
    unfold mb
    rw [F.2.2.1 _ _ (fun w => w)]
  · obtain ⟨c, R, w1, w2, w3⟩ := v9.fr (h' := h') hn (fun a k _ _ => eI _ _ (by omega)) (fun k => F.2.1 _ _ (fun w => w))
    exact ⟨c, R, fun a ha b hb => by rw [e1 _ _ (by omega), e1 _ _ (by omega)]; exact w1 a ha b hb, w2, w3⟩
  · obtain ⟨b1, b2⟩ := v11 j hj
    refine ⟨?_, fun k hk => by rw [e1 _ _ (by omega), e1 _ _ (by omega)]; exact b2 k hk⟩
    by_cases e : j = i
    · rw [e]; exact e9
    · rw [e1 _ _ (by omega)]; exact b1
/-- one field of node i is written -/
theorem CA.set {i f : Nat} (V : CA n h α) (hn : n ≤ 8) (hi : i < n) (h3 : 3 ≤ f) (v : Int32) (h9 : f = 9 → v = 0 ∨ v = 1) : CA n (sI h (5 + 9 * i) f v) (asV α i f v) := by
  refine V.node hn hi ((Fr.refl h).sI _ ⟨rfl, h3⟩) rfl (fun a k q => asV_n _ _ (by omega)) (fun g g1 g2 g4 => ?_) ?_
  · rw [gI_sI]
    by_cases e : g = f
    · rw [if_pos ⟨rfl, e⟩, e]; exact (asV_s _ _ _ _).symm
    · rw [if_neg (fun w => e w.2), asV_n _ _ (fun w => e w.2)]; exact V.1 i hi g g2 g4
  · by_cases e : f = 9
    · rw [e, asV_s]; exact h9 e
    · rw [asV_n _ _ (fun w => e w.2.symm)]; exact (V.2.2.2.2.2.2.2.2 i hi).1
/-- a count of the traffic is written -/
theorem CA.air {k : Nat} (V : CA n h α) (hn : n ≤ 8) (hk : 2 ≤ k ∧ k ≤ 6) (v : Int32) : CA n (sI h 114 k v) (asV α 50 k v) := by
  obtain ⟨v1, v2, v3, v4, ⟨v5, v6, v7⟩, v8, v9, v10, v11⟩ := V
  have eI : ∀ a l, ¬ (a = 114 ∧ l = k) → gI (sI h 114 k v) a l = gI h a l := fun a l q => by rw [gI_sI, if_neg q]
  refine ⟨fun j hj f h1 h2 => ?_, fun j hj => ?_, v3.fr fun j k _ _ => rfl, fun j hj => ?_, ⟨fun l h1 h2 => ?_, ?_, ?_⟩, fun j l hj hl => v8 j l hj hl, ?_, v10.fr fun j f h1 h2 => eI _ _ (by omega), fun j hj => ?_⟩
  · rw [eI _ _ (by omega), asV_n _ _ (by omega)]; exact v1 j hj f h1 h2
  · exact (v2 j hj).fr (eI _ _ (by omega)) (fun a k _ _ => eI _ _ (by omega)) (fun k _ => rfl)
  · rw [eI _ _ (by omega), v4 j hj]
    exact (hs_congr (fun a k _ hk => asV_n _ _ (by omega)) hj).symm
  · rw [gI_sI]
    by_cases e : l = k
    · rw [if_pos ⟨rfl, e⟩, e, asV_s]
    · rw [if_neg (fun w => e w.2), asV_n _ _ (fun w => e w.2)]; exact v5 l h1 h2
  · rw [eI _ _ (by omega), asV_n _ _ (by omega)]; exact v6
  · rw [eI _ _ (by omega), asV_n _ _ (by omega)]; exact v7
  · obtain ⟨c, R, w1, w2, w3⟩ := v9.fr (h' := sI h 114 k v) hn (fun a k _ _ => eI _ _ (by omega)) (fun k => rfl)
    exact ⟨c, R, fun a ha b hb => by rw [asV_n _ _ (by omega), asV_n _ _ (by omega)]; exact w1 a ha b hb, w2, w3⟩
  · obtain ⟨b1, b2⟩ := v11 j hj
    exact ⟨by rw [asV_n _ _ (by omega)]; exact b1, fun l hl => by rw [asV_n _ _ (by omega), asV_n _ _ (by omega)]; exact b2 l hl⟩
/-- the queue of node i is another one -/
theorem CA.que {i m : Nat} {w : Nat → Nat → Int32} (V : CA n h α) (hn : n ≤ 8) (hi : i < n) (F : Fr (fun a k => (8 + 9 * i ≤ a ∧ a < 12 + 9 * i) ∨ (a = 6 + 9 * i ∧ k = 1)) (wR i) nW h h') (q : Cq h' (asQ α i m w) i) (p : ∀ k l, k < 4 → l < 4 → gR h' (7 + 9 * i) k = gR h' (7 + 9 * i) l → k = l) : CA n h' (asQ α i m w) := by
  obtain ⟨v1, v2, v3, v4, ⟨v5, v6, v7⟩, v8, v9, v10, v11⟩ := V
  have eI : ∀ a k, ¬ ((8 + 9 * i ≤ a ∧ a < 12 + 9 * i) ∨ (a = 6 + 9 * i ∧ k = 1)) → gI h' a k = gI h a k := fun a k q => F.1 a k q
  have eR : ∀ a k, ¬ a = 7 + 9 * i → gR h' a k = gR h a k := fun a k q => F.2.1 a k (fun w => q w.1)
  refine ⟨v1.fr fun j f h1 h2 => eI _ _ (by omega), fun j hj => ?_, fun j hj k l hk hl e => ?_, fun j hj => (eI _ _ (by omega)).trans (v4 j hj), ⟨fun k h1 h2 => (eI _ _ (by omega)).trans (v5 k h1 h2), (eI _ _ (by omega)).trans v6, (eI _ _ (by omega)).trans v7⟩, fun j k hj hk => ?_, v9.fr hn (fun a k _ _ => eI _ _ (by omega)) (fun k => eR _ _ (by omega)), v10.fr fun j f h1 h2 => eI _ _ (by omega), v11⟩
  · by_cases e : j = i
    · subst e; exact q
    · have := (v2 j hj).fr (h' := h') (eI _ _ (by omega)) (fun a k _ _ => eI _ _ (by omega)) (fun k _ => eR _ _ (by omega))
      have e1 : (asQ α i m w).2.1 j = α.2.1 j := if_neg e
      have e2 : (asQ α i m w).2.2.1 j = α.2.2.1 j := if_neg e
      unfold Cq at this ⊢
      rw [e1, e2]
      exact this
  · by_cases e9 : j = i
    · subst e9; exact p k l hk hl e
    · rw [eR _ _ (by omega), eR _ _ (by omega)] at e
      exact v3 j hj k l hk hl e
  · show _ = α.2.2.2 j k
    rw [← v8 j k hj hk]
    unfold mb
    rw [F.2.2.1 _ _ (fun w => w)]
/-- a frame arrives -/
theorem CA.arr {i k : Nat} (V : CA n h α) (hk : k < 512) : CA n (putS h i k) (asR α i k) := by
  obtain ⟨v1, v2, v3, v4, ⟨v5, v6, v7⟩, v8, v9, v10, v11⟩ := V
  refine ⟨v1, v2, v3, v4, ⟨v5, v6, v7⟩, fun j l hj hl => ?_, v9, v10, v11⟩
  rw [mb_put hk, v8 j l hj hl]
  rfl
end XCA
