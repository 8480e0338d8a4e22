/-! pmrecv: a new row of ints joins a list; the reference's receive -/
theorem upr_eq {τ : Nat → Nat} {q r : Nat} : upr τ q r q = r := if_pos rfl
theorem upr_ne {τ : Nat → Nat} {q r x : Nat} (h : ¬ x = q) : upr τ q r x = τ x := if_neg h
section RCV
variable {τ τ' : Nat → Nat} {n A c B : Nat} {K : Int32} {p : Nat → Nat} {h h' : Hp}
/-- a new row of m ints, written since h -/
def Nw (τ : Nat → Nat) (h : Hp) (m : Nat) (g : Hp) : Prop := nx g = nx h + 1 ∧ sc g = sc h + m ∧ isK g (nx h) 100 = true ∧ ln g (nx h) = m ∧ Jk τ h g
theorem Nw.new (F : Fs τ h) (m : Nat) : Nw τ h m (hN h 100 m m) := ⟨rfl, rfl, isK_new, if_pos rfl, (Jk.refl τ h).hN (F.j (Nat.le_refl _))⟩
theorem Nw.sI {m k : Nat} {v : Int32} {g : Hp} (N : Nw τ h m g) (F : Fs τ h) : Nw τ h m (sI g (nx h) k v) := ⟨N.1, N.2.1, N.2.2.1, N.2.2.2.1, N.2.2.2.2.sI (F.j (Nat.le_refl _))⟩
theorem Nw.in {m : Nat} {g : Hp} (N : Nw τ h m g) {i : Nat} (hi : i < m) (hm : m < 2147483648) : inL g (nx h) (ii i) = true := inL_n (by omega) (by rw [N.2.2.2.1]; exact hi)
theorem Nw.any {m : Nat} {g : Hp} (N : Nw τ h m g) (F : Fs τ h) : isAny g (some (nx h)) = true := by
  have h1 := F.1
  obtain ⟨k1, k2⟩ := isK_spec N.2.2.1
  unfold isAny
  simp only [Bool.and_eq_true, decide_eq_true_eq]
  exact ⟨⟨k1, by omega⟩, Or.inr k2⟩
theorem new_role (F : Fs τ h) {a b q2 f : Nat} (hτ : τ' = upr τ (nx h) a ∨ τ' = upr (upr τ (nx h) a) q2 b) (hf : nx h ≤ f) : τ' f = 1 ∨ (f = nx h ∧ τ' f = a) ∨ τ' f = b := by
  have h1 := F.j hf
  rcases hτ with rfl | rfl
  · by_cases e : f = nx h
    · exact Or.inr (Or.inl ⟨e, by rw [e]; exact upr_eq⟩)
    · exact Or.inl (by rw [upr_ne e]; exact h1)
  · by_cases e2 : f = q2
    · exact Or.inr (Or.inr (by rw [e2]; exact upr_eq))
    · rw [upr_ne e2]
      by_cases e : f = nx h
      · exact Or.inr (Or.inl ⟨e, by rw [e]; exact upr_eq⟩)
      · exact Or.inl (by rw [upr_ne e]; exact h1)
theorem q_zaddNew (F : Fs τ h) {l r e k m : Nat} {g : Hp} (L : Lst τ h l r (fun _ f => τ f = e) k c) (N : Nw τ h m g) (hc : c = 0 ∨ k < c ∨ (k = c ∧ 10 ≤ c)) (hc2 : c < 100000) (hn : nx h + 10 ≤ 580300) (hs : sc h + m + 10 + (c + c / 2) ≤ 5700000) (tl : ¬ τ l = 1) (hr : ¬ r = 1) (he : ¬ e = 1 ∧ ¬ e = r ∧ ¬ e = τ l) :
    ∃ τ' h', (∀ Q, WP Gm j_ArrayList_add_LjavalangObjectZ 0 [some (.inr (.inl (some l))), some (.inr (.inl (some (nx h))))] [] g Q = Q (.inl (some (.inl 1))) h') ∧ Ext τ h τ' h' ∧ (τ' = upr τ (nx h) e ∨ τ' = upr (upr τ (nx h) e) (nx g) r) ∧ Fs τ' h' ∧ Ag τ (fun s => s = 1 ∨ s = τ l ∨ s = r) h h' ∧
      (∃ c', (c' = c ∨ (c = 0 ∧ c' = 10) ∨ (k = c ∧ 10 ≤ c ∧ c' = c + c / 2)) ∧ Lst τ' h' l r (fun _ f => τ' f = e) (k + 1) c' ∧ sc h' + 4 * c ≤ sc h + m + 10 + 4 * c') ∧ nx h' ≤ nx h + 2 ∧ (isK h' (nx h) 100 = true ∧ ln h' (nx h) = m ∧ ∀ j, gI h' (nx h) j = gI g (nx h) j) := by
  obtain ⟨n1, n2, n3, n4, X, G⟩ := id N
  have f125 := F.1
  have hlt : l < nx h := isK_lt L.kd
  have F1 : Fs (upr τ (nx h) e) g := F.up e (by omega)
  have X1 : Ext τ h (upr τ (nx h) e) g := ⟨fun z hz => ⟨upr_ne (by omega), (X.1 z hz).2.1, (X.1 z hz).2.2⟩, by omega⟩
  have L1 : Lst (upr τ (nx h) e) g l r (fun _ f => upr τ (nx h) e f = e) k c := L.fr X1 G tl hr fun _ f hf q => by rw [upr_ne (by omega)]; exact q
  have t1 : upr τ (nx h) e l = τ l := upr_ne (by omega)
  have key : ∀ {τ' : Nat → Nat} {u : Hp} {c' : Nat}, Ext (upr τ (nx h) e) g τ' u → Ag (upr τ (nx h) e) (fun s => s = 1 ∨ s = upr τ (nx h) e l ∨ s = r) g u → Lst τ' u l r (fun _ f => upr τ (nx h) e f = e) (k + 1) c' →
      Ext τ h τ' u ∧ Ag τ (fun s => s = 1 ∨ s = τ l ∨ s = r) h u ∧ Lst τ' u l r (fun _ f => τ' f = e) (k + 1) c' ∧ (isK u (nx h) 100 = true ∧ ln u (nx h) = m ∧ ∀ j, gI u (nx h) j = gI g (nx h) j) := fun {τ' u c'} Xu Gu Lu => by
    refine ⟨X1.trans Xu, (G.mono fun s w => Or.inl w).trans F X1 (Or.inl rfl) (Gu.mono fun s w => by rw [t1] at w; exact w), Lu.mono fun j f _ q => ?_, Xu.k n3, by rw [Xu.l n3]; exact n4, fun j => (Gu (nx h) (by rw [upr_eq, t1]; omega) j).1⟩
    have hf : f < nx g := by
      by_cases w : f = nx h
      · omega
      · rw [upr_ne w] at q
        have := F.lt (x := f) (by omega)
        omega
    rw [(Xu.1 f hf).1]
    exact q
  by_cases hg : c = 0 ∨ k < c
  · obtain ⟨τ', u, u1, Xu, u3, Fu, Gu, ⟨c', c1, Lu⟩, nu, su⟩ := q_zadd F1 L1 hg (by omega) (by omega) (N.any F) upr_eq hr
    obtain ⟨a1, a2, a3, a4⟩ := key Xu Gu Lu
    exact ⟨τ', u, u1, a1, u3, Fu, a2, ⟨c', by omega, a3, by omega⟩, by omega, a4⟩
  · obtain ⟨u, u1, Xu, Fu, Gu, Lu, nu, su⟩ := q_zaddG F1 L1 (by omega) (by omega) hc2 (by omega) (by omega) (N.any F) upr_eq hr
    obtain ⟨a1, a2, a3, a4⟩ := key Xu Gu Lu
    exact ⟨_, u, u1, a1, Or.inr rfl, Fu, a2, ⟨c + c / 2, by omega, a3, by omega⟩, by omega, a4⟩
/-- a row of two ints joins the arrived ones -/
theorem RM.arrAdd (R : RM τ n p A c B K h) {g : Hp} (N : Nw τ h 2 g) (hA : A ≤ 16000) (hn : nx h + 10 ≤ 580300) (hs : sc h + 100000 ≤ 5700000) :
    ∃ τ' h' c', (∀ Q, WP Gm j_ArrayList_add_LjavalangObjectZ 0 [some (.inr (.inl (some 123))), some (.inr (.inl (some (nx h))))] [] g Q = Q (.inl (some (.inl 1))) h') ∧ RM τ' n p (A + 1) c' B K h' ∧ Ext τ h τ' h' ∧ Ag τ (fun s => s = 1 ∨ s = 4 ∨ s = 7) h h' ∧ nx h' ≤ nx h + 2 ∧ sc h' + 4 * c ≤ sc h + 12 + 4 * c' := by
  have F := R.F
  obtain ⟨k, k1, ⟨c1, c2⟩, L⟩ := R.al
  have hkc : c = 0 ∨ k ≤ c := by
    obtain ⟨a, L1, d, -⟩ := L
    rcases L1.d with e | e
    · rcases d with w | w
      · exact Or.inl w.2
      · exact absurd e.1 w.2.2.1
    · rcases d with w | w
      · exact Or.inl w.2
      · exact Or.inr (by rw [← w.2.1]; exact e.2.1)
  obtain ⟨τ', u, u1, X, u3, F', G, ⟨c', c3, L', s'⟩, n', k', l', -⟩ := q_zaddNew F L N (by omega) (by omega) hn (by omega) (by rw [R.t3]; omega) (by omega) (by rw [R.t3]; omega)
  have G' : Ag τ (fun s => s = 1 ∨ s = 4 ∨ s = 7) h u := G.mono fun s w => by rw [R.t3] at w; exact w
  refine ⟨τ', u, c', u1, R.arr F' X G' (fun f hf => ?_) (fun f hf w => ?_) (fun f hf => ?_) ⟨k + 1, by omega, by omega, L'⟩, X, G', n', by omega⟩
  · have := new_role F u3 hf
    omega
  · have := new_role F u3 hf
    have e : f = nx h := by omega
    subst e
    exact ⟨k', l'⟩
  · have := new_role F u3 hf
    omega
/-- a new frame joins the queue of node i -/
theorem RM.qAdd {i t : Nat} (R : RM τ n p A c B K h) (hi : i < n) {g : Hp} (N : Nw τ h 5 g) (ht : t < n) (hv : gI g (nx h) 1 = ii t) (h4 : ¬ gI h (p i + 1) 2 = 4) (hn : nx h + 10 ≤ 580300) (hs : sc h + 100 ≤ 5700000) :
    ∃ τ' h', (∀ Q, WP Gm j_ArrayList_add_LjavalangObjectZ 0 [some (.inr (.inl (some (p i + 1)))), some (.inr (.inl (some (nx h))))] [] g Q = Q (.inl (some (.inl 1))) h') ∧ RM τ' n p A c B K h' ∧ Ext τ h τ' h' ∧ Ag τ (fun s => s = 1 ∨ s = 17 + 8 * i ∨ s = 20 + 8 * i) h h' ∧ ¬ gI h' (p i + 1) 2 = 0 ∧ nx h' ≤ nx h + 2 ∧ sc h' ≤ sc h + 60 := by
  have F := R.F
  obtain ⟨N1, -, ⟨k, c0, k1, c1, L⟩, V, -⟩ := R.nd hi
  have hk4 : k < 4 := by
    have hs := L.s
    by_cases e : k = 4
    · rw [e] at hs
      exact absurd hs h4
    · omega
  have t1 := N1.1.2.1
  obtain ⟨τ', u, u1, X, u3, F', G, ⟨c', c3, L', s'⟩, n', k', l', g'⟩ := q_zaddNew F L N (by omega) (by omega) hn (by omega) (by rw [t1]; omega) (by omega) (by rw [t1]; omega)
  have G' : Ag τ (fun s => s = 1 ∨ s = 17 + 8 * i ∨ s = 20 + 8 * i) h u := G.mono fun s w => by rw [t1] at w; exact w
  refine ⟨τ', u, u1, R.queue F' X G' (fun f hf w => ?_) (fun f hf => ?_) (fun f hf => ?_) (fun _ => ⟨k + 1, c', by omega, by omega, L'⟩) (fun _ w => ?_), X, G', by rw [L'.s, ii_z0 (by omega)]; omega, n', by omega⟩
  · have := new_role F u3 hf
    have e : f = nx h := by omega
    subst e
    exact ⟨k', l', t, ht, by rw [g']; exact hv⟩
  · have := new_role F u3 hf
    omega
  · have := new_role F u3 hf
    omega
  · have eP : ¬ (τ (p i) = 1 ∨ τ (p i) = 17 + 8 * i ∨ τ (p i) = 20 + 8 * i) := by rw [N1.1.1]; omega
    rw [(G' (p i) eP 7).1] at w
    obtain ⟨v1, -⟩ := V w
    rw [(G' (p i) eP 8).1]
    refine ⟨v1, ?_⟩
    rw [L'.s, ii_z0 (by omega)]
    omega
/-- a row of three ints joins the bids -/
theorem RM.bidAdd {b : Nat} (R : RM τ n p A c B K h) {g : Hp} (N : Nw τ h 3 g) (hb : b < 5) (hv : gI g (nx h) 0 = ii b) (h10 : ¬ gI h 124 2 = 10) (hn : nx h + 10 ≤ 580300) (hs : sc h + 100 ≤ 5700000) :
    ∃ τ' h', (∀ Q, WP Gm j_ArrayList_add_LjavalangObjectZ 0 [some (.inr (.inl (some 124))), some (.inr (.inl (some (nx h))))] [] g Q = Q (.inl (some (.inl 1))) h') ∧ RM τ' n p A c B K h' ∧ Ext τ h τ' h' ∧ Ag τ (fun s => s = 1 ∨ s = 5 ∨ s = 8) h h' ∧ nx h' ≤ nx h + 2 ∧ sc h' ≤ sc h + 60 := by
  have F := R.F
  obtain ⟨k, c0, k1, c1, L⟩ := R.bl
  have hk4 : k < 10 := by
    have hs := L.s
    by_cases e : k = 10
    · rw [e] at hs
      exact absurd hs h10
    · omega
  obtain ⟨τ', u, u1, X, u3, F', G, ⟨c', c3, L', s'⟩, n', k', l', g'⟩ := q_zaddNew F L N (by omega) (by omega) hn (by omega) (by rw [R.t4]; omega) (by omega) (by rw [R.t4]; omega)
  have G' : Ag τ (fun s => s = 1 ∨ s = 5 ∨ s = 8) h u := G.mono fun s w => by rw [R.t4] at w; exact w
  refine ⟨τ', u, u1, R.bids F' X G' (fun f hf => ?_) (fun f hf => ?_) (fun f hf w => ?_) ⟨k + 1, c', by omega, by omega, L'⟩, X, G', n', by omega⟩
  · have := new_role F u3 hf
    omega
  · have := new_role F u3 hf
    omega
  · have := new_role F u3 hf
    have e : f = nx h := by omega
    subst e
    exact ⟨k', l', b, hb, by rw [g']; exact hv⟩
end RCV
