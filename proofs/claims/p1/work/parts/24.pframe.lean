/-! pframe: what a method may write; loops that change the heap -/
def nW : Nat → Nat → Prop := fun _ _ => False
def Fr (WI WR WL : Nat → Nat → Prop) (h h' : Hp) : Prop := (∀ a k, ¬ WI a k → gI h' a k = gI h a k) ∧ (∀ a k, ¬ WR a k → gR h' a k = gR h a k) ∧ (∀ a k, ¬ WL a k → gL h' a k = gL h a k) ∧ (∀ a, kd h' a = kd h a) ∧ (∀ a, ln h' a = ln h a) ∧ nx h' = nx h ∧ sc h' = sc h
theorem Fr.refl {WI WR WL : Nat → Nat → Prop} (h : Hp) : Fr WI WR WL h h := ⟨fun _ _ _ => rfl, fun _ _ _ => rfl, fun _ _ _ => rfl, fun _ => rfl, fun _ => rfl, rfl, rfl⟩
theorem Fr.trans {WI WR WL : Nat → Nat → Prop} {h1 h2 h3 : Hp} (F : Fr WI WR WL h1 h2) (G : Fr WI WR WL h2 h3) : Fr WI WR WL h1 h3 :=
  ⟨fun a k q => (G.1 a k q).trans (F.1 a k q), fun a k q => (G.2.1 a k q).trans (F.2.1 a k q), fun a k q => (G.2.2.1 a k q).trans (F.2.2.1 a k q), fun a => (G.2.2.2.1 a).trans (F.2.2.2.1 a), fun a => (G.2.2.2.2.1 a).trans (F.2.2.2.2.1 a), G.2.2.2.2.2.1.trans F.2.2.2.2.2.1, G.2.2.2.2.2.2.trans F.2.2.2.2.2.2⟩
theorem Fr.mono {WI WR WL WI' WR' WL' : Nat → Nat → Prop} {h1 h2 : Hp} (F : Fr WI WR WL h1 h2) (hI : ∀ a k, WI a k → WI' a k) (hR : ∀ a k, WR a k → WR' a k) (hL : ∀ a k, WL a k → WL' a k) : Fr WI' WR' WL' h1 h2 :=
  ⟨fun a k q => F.1 a k (fun w => q (hI a k w)), fun a k q => F.2.1 a k (fun w => q (hR a k w)), fun a k q => F.2.2.1 a k (fun w => q (hL a k w)), F.2.2.2⟩
theorem Fr.sI {WI WR WL : Nat → Nat → Prop} {h h' : Hp} (F : Fr WI WR WL h h') {a k : Nat} (v : Int32) (hw : WI a k) : Fr WI WR WL h (sI h' a k v) :=
  ⟨fun b j q => by rw [gI_sI, if_neg (fun e => q (by rw [e.1, e.2]; exact hw))]; exact F.1 b j q, F.2⟩
theorem Fr.sR {WI WR WL : Nat → Nat → Prop} {h h' : Hp} (F : Fr WI WR WL h h') {a k : Nat} (v : Option Nat) (hw : WR a k) : Fr WI WR WL h (sR h' a k v) :=
  ⟨F.1, fun b j q => by rw [gR_sR, if_neg (fun e => q (by rw [e.1, e.2]; exact hw))]; exact F.2.1 b j q, F.2.2⟩
theorem Fr.sL {WI WR WL : Nat → Nat → Prop} {h h' : Hp} (F : Fr WI WR WL h h') {a k : Nat} (v : Int64) (hw : WL a k) : Fr WI WR WL h (sL h' a k v) :=
  ⟨F.1, F.2.1, fun b j q => by rw [gL_sL, if_neg (fun e => q (by rw [e.1, e.2]; exact hw))]; exact F.2.2.1 b j q, F.2.2.2⟩
theorem KS.of {h h' : Hp} (K : KS h) (h1 : ∀ a, kd h' a = kd h a) (h2 : ∀ a, ln h' a = ln h a) (h3 : nx h' = nx h) : KS h' := by
  refine ⟨by rw [h3]; exact K.1, fun a p q => ?_⟩
  rw [h1, h2]
  exact K.2 a p q
theorem Str.fr {n : Nat} {h h' : Hp} {WI WL : Nat → Nat → Prop} (S : Str n h) (F : Fr WI nW WL h h') (h2 : ¬ WI 2 2) : Str n h' := by
  have e : ∀ a k, gR h' a k = gR h a k := fun a k => F.2.1 a k (fun q => q)
  have e2 : gI h' 2 2 = gI h 2 2 := F.1 2 2 h2
  unfold Str
  simp only [e, e2]
  exact ⟨S.1.of F.2.2.2.1 F.2.2.2.2.1 F.2.2.2.2.2.1, S.2⟩
theorem Str.sI {n : Nat} {h : Hp} (S : Str n h) {a k : Nat} (v : Int32) (h2 : ¬ (a = 2 ∧ k = 2)) : Str n (sI h a k v) :=
  S.fr (WI := fun b j => b = a ∧ j = k) (WL := nW) ((Fr.refl h).sI v ⟨rfl, rfl⟩) (fun q => h2 ⟨q.1.symm, q.2.symm⟩)
theorem loopR {α : Type} (P : (MRes → Hp → Prop) → Nat → α → Prop) (I : Nat → α → Prop) (n : Nat) (hs : ∀ k a, k < n → I k a → ∃ a', (∀ Q, P Q k a = P Q (k + 1) a') ∧ I (k + 1) a') : ∀ (m k : Nat) (a : α), k + m = n → I k a → ∃ a', (∀ Q, P Q k a = P Q n a') ∧ I n a'
  | 0, k, a, e, h => by
    have : k = n := by omega
    subst this
    exact ⟨a, fun _ => rfl, h⟩
  | m + 1, k, a, e, h => by
    obtain ⟨a1, h1, h2⟩ := hs k a (by omega) h
    obtain ⟨a2, h3, h4⟩ := loopR P I n hs m (k + 1) a1 (by omega) h2
    exact ⟨a2, fun Q => (h1 Q).trans (h3 Q), h4⟩
section MK
variable {n : Nat} {h : Hp}
theorem k_bid (S : Str n h) : isK h 116 100 = true := S.1.k (by decide) (by decide) rfl
theorem k_pri (S : Str n h) : isK h 117 100 = true := S.1.k (by decide) (by decide) rfl
theorem k_tak (S : Str n h) : isK h 118 100 = true := S.1.k (by decide) (by decide) rfl
theorem k_wor (S : Str n h) : isK h 119 100 = true := S.1.k (by decide) (by decide) rfl
theorem k_wwo (S : Str n h) : isK h 120 100 = true := S.1.k (by decide) (by decide) rfl
theorem l_bid (S : Str n h) {i : Nat} (hi : i < 10) : inL h 116 (ii i) = true := inL_n (by omega) (by rw [S.1.l (n := 10) (by decide) (by decide) (by decide) rfl]; exact hi)
theorem l_pri (S : Str n h) {i : Nat} (hi : i < 10) : inL h 117 (ii i) = true := inL_n (by omega) (by rw [S.1.l (n := 10) (by decide) (by decide) (by decide) rfl]; exact hi)
theorem l_tak (S : Str n h) {i : Nat} (hi : i < 1024) : inL h 118 (ii i) = true := inL_n (by omega) (by rw [S.1.l (n := 1024) (by decide) (by decide) (by decide) rfl]; exact hi)
theorem l_wor (S : Str n h) {i : Nat} (hi : i < 1024) : inL h 119 (ii i) = true := inL_n (by omega) (by rw [S.1.l (n := 1024) (by decide) (by decide) (by decide) rfl]; exact hi)
theorem l_wwo (S : Str n h) {i : Nat} (hi : i < 5) : inL h 120 (ii i) = true := inL_n (by omega) (by rw [S.1.l (n := 5) (by decide) (by decide) (by decide) rfl]; exact hi)
theorem r_bid (S : Str n h) : gR h 115 0 = some 116 := S.2.2.2.2.2.2.2.1.1
theorem r_pri (S : Str n h) : gR h 115 1 = some 117 := S.2.2.2.2.2.2.2.1.2.1
theorem r_tak (S : Str n h) : gR h 115 2 = some 118 := S.2.2.2.2.2.2.2.1.2.2.1
theorem r_wor (S : Str n h) : gR h 115 3 = some 119 := S.2.2.2.2.2.2.2.1.2.2.2.1
theorem r_wwo (S : Str n h) : gR h 115 4 = some 120 := S.2.2.2.2.2.2.2.1.2.2.2.2
end MK
