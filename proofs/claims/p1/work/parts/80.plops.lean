/-! plops: a list gives, takes one more, loses its first; an iterator over it -/
theorem ne_k {h : Hp} {a b c d : Nat} (h1 : isK h a c = true) (h2 : isK h b d = true) (hcd : ¬ c = d) : ¬ a = b := fun e => hcd (by rw [← (isK_spec h1).2, ← (isK_spec h2).2, e])
theorem ok_big {h : Hp} {m s : Nat} (h1 : nx h + m ≤ 580300) (h2 : sc h + s ≤ 5700000) : okR cM sM h m s = true := by
  have a : 580300 ≤ cM := by decide
  have b : 5700000 ≤ sM := by decide
  unfold okR
  rw [decide_eq_true (p := nx h + m ≤ cM + 1) (by omega), decide_eq_true (p := sc h + s ≤ sM) (by omega)]
  rfl
/-- element i of the list l -/
def el (h : Hp) (l i : Nat) : Option Nat := match gR h l 1 with | some a => gR h a i | none => none
section LOPS
variable {τ : Nat → Nat} {h : Hp} {l r k c : Nat} {E : Nat → Nat → Prop}
theorem Lst.li (L : Lst τ h l r E k c) : ∃ a, Li h l a k := by
  obtain ⟨a, L1, -⟩ := L
  exact ⟨a, L1⟩
theorem Lst.s (L : Lst τ h l r E k c) : gI h l 2 = ii k := by
  obtain ⟨a, L1, -⟩ := L
  exact L1.s
theorem Lst.kd (L : Lst τ h l r E k c) : isK h l kc_ArrayList = true := by
  obtain ⟨a, L1, -⟩ := L
  exact L1.k
theorem Lst.mono {E' : Nat → Nat → Prop} (L : Lst τ h l r E k c) (q : ∀ j f, j < k → E j f → E' j f) : Lst τ h l r E' k c := by
  obtain ⟨a, L1, hc, he⟩ := L
  exact ⟨a, L1, hc, fun j hj => by
    obtain ⟨f, f1, f2, f3⟩ := he j hj
    exact ⟨f, f1, f2, q j f hj f3⟩⟩
theorem q_zsize (Q : MRes → Hp → Prop) (L : Lst τ h l r E k c) : WP Gm j_ArrayList_size 0 [some (.inr (.inl (some l)))] [] h Q = Q (.inl (some (.inl (ii k)))) h := by
  obtain ⟨a, L1, -⟩ := L
  exact q_lsize Q L1
theorem q_zempty (Q : MRes → Hp → Prop) (L : Lst τ h l r E k c) : WP Gm j_ArrayList_isEmpty 0 [some (.inr (.inl (some l)))] [] h Q = Q (.inl (some (.inl (bI (decide (k = 0)))))) h := by
  obtain ⟨a, L1, -⟩ := L
  exact q_lempty Q L1
theorem q_zget (L : Lst τ h l r E k c) {i : Nat} (hi : i < k) : ∃ f, el h l i = some f ∧ isAny h (some f) = true ∧ E i f ∧ ∀ Q, WP Gm j_ArrayList_get 0 [some (.inr (.inl (some l))), some (.inl (ii i))] [] h Q = Q (.inl (some (.inr (.inl (some f))))) h := by
  obtain ⟨a, L1, hc, he⟩ := L
  obtain ⟨f, f1, f2, f3⟩ := he i hi
  refine ⟨f, ?_, f2, f3, fun Q => by rw [q_lget Q L1 hi, f1]⟩
  unfold el
  rw [L1.r]
  exact f1
theorem q_zadd (F : Fs τ h) (L : Lst τ h l r E k c) (hc : c = 0 ∨ k < c) (hn : nx h + 1 ≤ 580300) (hs : sc h + 10 ≤ 5700000) {x : Nat} (hx : isAny h (some x) = true) (hE : E k x) (hr : ¬ r = 1) :
    ∃ τ' h', (∀ Q, WP Gm j_ArrayList_add_LjavalangObjectZ 0 [some (.inr (.inl (some l))), some (.inr (.inl (some x)))] [] h Q = Q (.inl (some (.inl 1))) h') ∧ Ext τ h τ' h' ∧ (τ' = τ ∨ τ' = upr τ (nx h) r) ∧ Fs τ' h' ∧ Ag τ (fun s => s = 1 ∨ s = τ l ∨ s = r) h h' ∧
      (∃ c', (c' = c ∨ (c = 0 ∧ c' = 10)) ∧ Lst τ' h' l r E (k + 1) c') ∧ nx h' ≤ nx h + 1 ∧ sc h' ≤ sc h + 10 := by
  obtain ⟨a, L1, d, he⟩ := id L
  have kl := L1.k
  have hll := isK_lt kl
  have tq : τ (nx h) = 1 := F.j (Nat.le_refl _)
  rcases d with ⟨rfl, rfl⟩ | ⟨d1, d2, d3, d4⟩
  · have hk0 : k = 0 := by
      rcases L1.d with e | e
      · exact e.2
      · exact absurd rfl e.2.2.2.1
    subst hk0
    have X0 : Ext τ h (upr τ (nx h) r) (hN h 106 10 10) := Ext.newr _ _ _ _ _ _
    generalize hg : sI (sR (sR (hN (sI h l 0 (gI h l 0 + 1)) 106 10 10) l 1 (some (nx h))) (nx h) 0 (some x)) l 2 (ii 1) = g
    have X : Ext τ h (upr τ (nx h) r) g := by rw [← hg]; exact X0
    have ng : nx g = nx h + 1 := by rw [← hg]; rfl
    have sg : sc g = sc h + 10 := by rw [← hg]; rfl
    refine ⟨upr τ (nx h) r, g, fun Q => ?_, X, Or.inr rfl, F.up r (by omega), ?_, ⟨10, Or.inr ⟨rfl, rfl⟩, nx h, ⟨X.k kl, ?_, ?_, by omega, Or.inr ⟨?_, ?_, by omega, ?_, ?_⟩⟩, Or.inr ⟨if_pos rfl, ?_, ?_, by omega⟩, fun j hj => ⟨x, ?_, X.any hx, ?_⟩⟩, by omega, by omega⟩
    · rw [← hg]
      exact q_laddE Q L1 (ok_big hn hs) hx
    · rw [← hg]
      exact ((((Ag.refl _ h).sI (Or.inr (Or.inl rfl))).hN (Or.inl tq)).sR (Or.inr (Or.inl rfl))).sR (Or.inl tq) |>.sI (Or.inr (Or.inl rfl))
    · rw [← hg, gR_sI, gR_sR, if_neg (by omega), gR_sR, if_pos ⟨rfl, rfl⟩]
    · rw [← hg, gI_sI, if_pos ⟨rfl, rfl⟩]
    · exact isK_of (by omega) (by rw [← hg, kd_sI, kd_sR, kd_sR, kd_hN]; exact if_pos rfl)
    · rw [← hg, ln_sI, ln_sR, ln_sR, ln_hN, nx_sI, if_pos rfl]; omega
    · have : eD = 1000000001 := rfl
      omega
    · rw [← hg, ln_sI, ln_sR, ln_sR, ln_hN, nx_sI, if_pos rfl]; omega
    · rw [← hg, ln_sI, ln_sR, ln_sR, ln_hN, nx_sI, if_pos rfl]
    · have : eD = 1000000001 := rfl
      omega
    · have : j = 0 := by omega
      subst this
      rw [← hg, gR_sI, gR_sR, if_pos ⟨rfl, rfl⟩]
    · have : j = 0 := by omega
      subst this
      exact hE
  · have hkc : k < c := by rcases hc with e | e <;> omega
    rcases L1.d with e | ⟨e1, e2, e3, e4, e5⟩
    · exact absurd e.1 d3
    have hla : ¬ l = a := ne_k kl e1 (by decide)
    generalize hg : sI (sR (sI h l 0 (gI h l 0 + 1)) a k (some x)) l 2 (ii (k + 1)) = g
    have X : Ext τ h τ g := by rw [← hg]; exact Ext.refl τ h
    have ng : nx g = nx h := by rw [← hg]; rfl
    have sg : sc g = sc h := by rw [← hg]; rfl
    refine ⟨τ, g, fun Q => ?_, X, Or.inl rfl, F.same (by omega), ?_, ⟨c, Or.inl rfl, a, ⟨X.k kl, ?_, ?_, by omega, Or.inr ⟨X.k e1, by rw [X.l e1]; omega, e3, e4, by rw [X.l e1]; exact e5⟩⟩, Or.inr ⟨d1, by rw [X.l e1]; exact d2, d3, d4⟩, fun j hj => ?_⟩, by omega, by omega⟩
    · rw [← hg]
      exact q_laddA Q L1 e1 (by omega) e5 e4 hx
    · rw [← hg]
      exact ((Ag.refl _ h).sI (Or.inr (Or.inl rfl))).sR (Or.inr (Or.inr d1)) |>.sI (Or.inr (Or.inl rfl))
    · rw [← hg, gR_sI, gR_sR, if_neg (fun w => hla w.1), gR_sI]; exact L1.r
    · rw [← hg, gI_sI, if_pos ⟨rfl, rfl⟩]
    · by_cases ej : j = k
      · subst ej
        exact ⟨x, by rw [← hg, gR_sI, gR_sR, if_pos ⟨rfl, rfl⟩], X.any hx, hE⟩
      · obtain ⟨f, f1, f2, f3⟩ := he j (by omega)
        exact ⟨f, by rw [← hg, gR_sI, gR_sR, if_neg (fun w => ej w.2), gR_sI]; exact f1, X.any f2, f3⟩
theorem q_zremove (L : Lst τ h l r E k c) (hk : 1 ≤ k) : ∃ v h', (∀ Q, WP Gm j_ArrayList_remove 0 [some (.inr (.inl (some l))), some (.inl 0), none, none] [] h Q = Q (.inl (some (.inr (.inl v)))) h') ∧ Ext τ h τ h' ∧ Ag τ (fun s => s = τ l ∨ s = r) h h' ∧ Lst τ h' l r (fun j f => E (j + 1) f) (k - 1) c ∧ nx h' = nx h ∧ sc h' = sc h := by
  obtain ⟨a, L1, d, he⟩ := id L
  have kl := L1.k
  have hb := L1.b
  rcases L1.d with e | ⟨e1, e2, e3, e4, e5⟩
  · omega
  rcases d with d | ⟨d1, d2, d3, d4⟩
  · exact absurd d.1 e4
  have hla : ¬ l = a := ne_k kl e1 (by decide)
  by_cases h1 : k = 1
  · subst h1
    generalize hg : sR (sI (sI h l 0 (gI h l 0 + 1)) l 2 (ii 0)) a 0 none = g
    have X : Ext τ h τ g := by rw [← hg]; exact Ext.refl τ h
    refine ⟨_, g, fun Q => by rw [← hg]; exact q_lremove1 Q L1, X, ?_, ⟨a, ⟨X.k kl, ?_, ?_, by omega, Or.inr ⟨X.k e1, by omega, e3, e4, by rw [X.l e1]; exact e5⟩⟩, Or.inr ⟨d1, by rw [X.l e1]; exact d2, d3, d4⟩, fun j hj => absurd hj (by omega)⟩, by rw [← hg]; rfl, by rw [← hg]; rfl⟩
    · rw [← hg]
      exact (((Ag.refl _ h).sI (Or.inl rfl)).sI (Or.inl rfl)).sR (Or.inr d1)
    · rw [← hg, gR_sR, if_neg (fun w => hla w.1)]; exact L1.r
    · rw [← hg, gI_sR, gI_sI, if_pos ⟨rfl, rfl⟩]
  · have hany : ∀ i, i < k → isAny h (gR h a i) = true := fun i hi => by
      obtain ⟨f, f1, f2, -⟩ := he i hi
      rw [f1]
      exact f2
    generalize hg : sR (sI (cR (sI h l 0 (gI h l 0 + 1)) a a 1 0 (k - 1)) l 2 (ii (k - 1))) a (k - 1) none = g
    have X : Ext τ h τ g := by rw [← hg]; exact Ext.refl τ h
    refine ⟨_, g, fun Q => by rw [← hg]; exact q_lremoveN Q L1 (by omega) hany, X, ?_, ⟨a, ⟨X.k kl, ?_, ?_, by omega, Or.inr ⟨X.k e1, by rw [X.l e1]; omega, e3, e4, by rw [X.l e1]; exact e5⟩⟩, Or.inr ⟨d1, by rw [X.l e1]; exact d2, d3, d4⟩, fun j hj => ?_⟩, by rw [← hg]; rfl, by rw [← hg]; rfl⟩
    · have G1 : Ag τ (fun s => s = τ l ∨ s = r) h (cR (sI h l 0 (gI h l 0 + 1)) a a 1 0 (k - 1)) := fun z hz j => by
        have g0 : Ag τ (fun s => s = τ l ∨ s = r) h (sI h l 0 (gI h l 0 + 1)) := (Ag.refl _ h).sI (Or.inl rfl)
        rw [gR_cR, if_neg (fun w => hz (by rw [w.1]; exact Or.inr d1))]
        exact g0 z hz j
      rw [← hg]
      exact (G1.sI (Or.inl rfl)).sR (Or.inr d1)
    · rw [← hg, gR_sR, if_neg (fun w => hla w.1), gR_sI, gR_cR, if_neg (fun w => hla w.1)]; exact L1.r
    · rw [← hg, gI_sR, gI_sI, if_pos ⟨rfl, rfl⟩]
    · obtain ⟨f, f1, f2, f3⟩ := he (j + 1) (by omega)
      refine ⟨f, ?_, X.any f2, f3⟩
      rw [← hg, gR_sR, if_neg (by omega), gR_sI, gR_cR, if_pos ⟨rfl, by omega, by omega⟩, gR_sI, show 1 + (j - 0) = j + 1 by omega]
      exact f1
theorem Lst.sw {h' : Hp} (L : Lst τ h l r E k c) (x : Sw τ h h') (hl : ∀ j, ¬ OW (τ l) j) (hr : ¬ r = 1) : Lst τ h' l r E k c := by
  obtain ⟨a, L1, d, he⟩ := L
  have X := x.1
  have hl1 : ¬ τ l = 1 := fun w => hl 0 (Or.inl w)
  refine ⟨a, ⟨X.k L1.k, by rw [(x.2.2 l 1 hl1).1]; exact L1.r, by rw [x.2.1 l 2 (hl 2)]; exact L1.s, L1.b, ?_⟩, ?_, fun j hj => ?_⟩
  · rcases L1.d with e | ⟨e1, e2, e3, e4, e5⟩
    · exact Or.inl e
    · exact Or.inr ⟨X.k e1, by rw [X.l e1]; exact e2, e3, e4, by rw [X.l e1]; exact e5⟩
  · rcases d with e | ⟨d1, d2, d3, d4⟩
    · exact Or.inl e
    · rcases L1.d with e | ⟨e1, -⟩
      · exact absurd e.1 d3
      · exact Or.inr ⟨d1, by rw [X.l e1]; exact d2, d3, d4⟩
  · obtain ⟨f, f1, f2, f3⟩ := he j hj
    have ha : τ a = r := by
      rcases d with e | e
      · rcases L1.d with w | w
        · omega
        · exact absurd e.1 w.2.2.2.1
      · exact e.1
    exact ⟨f, by rw [(x.2.2 a j (by rw [ha]; exact hr)).1]; exact f1, X.any f2, f3⟩
/-- an iterator is made -/
theorem q_ziter (F : Fs τ h) (L : Lst τ h l r E k c) (hl : ¬ τ l = 1) (hn : nx h + 1 ≤ 580300) (hs : sc h + 4 ≤ 5700000) : ∃ h', (∀ Q, WP Gm j_ArrayList_iterator 0 [some (.inr (.inl (some l)))] [] h Q = Q (.inl (some (.inr (.inl (some (nx h)))))) h') ∧ Jk τ h h' ∧ It h' (nx h) l 0 ∧ nx h' = nx h + 1 ∧ sc h' = sc h + 4 := by
  obtain ⟨a, L1, -⟩ := id L
  have tq : τ (nx h) = 1 := F.j (Nat.le_refl _)
  have hll := isK_lt L1.k
  refine ⟨_, fun Q => q_liter Q L1 (ok_big hn hs), ?_, ⟨?_, ?_, ?_, ?_, by omega⟩, rfl, rfl⟩
  · exact ((((Jk.refl τ h).hN tq).sR tq).sI tq).sI tq
  · exact isK_new
  · rw [gR_sI, gR_sI, gR_sR, if_pos ⟨rfl, rfl⟩]
  · rw [gI_sI, if_neg (by omega), gI_sI, if_neg (by omega), gI_sR, gI_hN, if_pos rfl]; rfl
  · rw [gI_sI, if_pos ⟨rfl, rfl⟩, gI_sI, if_neg (by omega), gI_sI, if_neg (by omega), gI_sR, gI_hN, if_neg (by omega)]
theorem q_zhas (Q : MRes → Hp → Prop) (L : Lst τ h l r E k c) {q i : Nat} (I : It h q l i) (hi : i ≤ k) : WP Gm j_Itr_hasNext 0 [some (.inr (.inl (some q)))] [] h Q = Q (.inl (some (.inl (bI (decide (i < k)))))) h := by
  obtain ⟨a, L1, -⟩ := L
  exact q_hasNext Q L1 I hi
theorem q_znext (L : Lst τ h l r E k c) {q i : Nat} (I : It h q l i) (hi : i < k) (tq : τ q = 1) : ∃ f h', el h l i = some f ∧ isAny h (some f) = true ∧ E i f ∧ (∀ Q, WP Gm j_Itr_next 0 [some (.inr (.inl (some q))), none, none] [] h Q = Q (.inl (some (.inr (.inl (some f))))) h') ∧ Jk τ h h' ∧ It h' q l (i + 1) ∧ nx h' = nx h ∧ sc h' = sc h := by
  obtain ⟨a, L1, d, he⟩ := L
  obtain ⟨f, f1, f2, f3⟩ := he i hi
  refine ⟨f, sI (sI h q 0 (ii (i + 1))) q 1 (ii i), ?_, f2, f3, fun Q => by rw [q_next Q L1 I hi, f1], ((Jk.refl τ h).sI tq).sI tq, I.next (isK_spec L1.k).2, rfl, rfl⟩
  unfold el
  rw [L1.r]
  exact f1
end LOPS
