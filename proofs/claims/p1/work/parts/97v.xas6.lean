/-! xas6: a slot of the reference in values -/
def snd9 (α : As) (i : Nat) : Bool := decide (0 < α.1 i 7)
def bsy9 (α : As) (n i : Nat) : Bool := exUp (fun k => hr9 α i k && snd9 α k) n 0
def gb9 (α : As) (S : Nat → Bool) (x j k : Nat) : Bool := !decide (k = j) && (S k && (hr9 α x k && decide (fX α k x < 4 * fX α j x)))
def gt9 (α : As) (n : Nat) (S : Nat → Bool) (x j : Nat) : Bool := !S x && (hr9 α x j && !exUp (gb9 α S x j) n 0)
def tk9 (S b : Nat → Bool) : Nat → As → As
  | 0, α => α
  | k + 1, α => if (S k || (b k || decide ((tk9 S b k α).2.1 k = 0))) = true then tk9 S b k α else trn9 (tk9 S b k α) k
def ai9 (n : Nat) (S : Nat → Bool) : Nat → As → As
  | 0, α => α
  | k + 1, α => if S k = true then asV (asV (ai9 n S k α) k 10 ((ai9 n S k α).1 k 10 + 1)) k 9 ((ai9 n S k α).1 k 9 &&& bI (gt9 (ai9 n S k α) n S (tn9 ((ai9 n S k α).1 k 8)) k)) else ai9 n S k α
def de9 (α : As) (k : Nat) : As := asV α k 7 (α.1 k 7 - 1)
def en9 (S : Nat → Bool) : Nat → As → As
  | 0, α => α
  | k + 1, α => if S k = true then (if (en9 S k α).1 k 7 - 1 = 0 then end9 (de9 (en9 S k α) k) k else de9 (en9 S k α) k) else en9 S k α
def slot9 (n : Nat) (α : As) : As := en9 (snd9 (tk9 (snd9 (asV α 50 2 (α.1 50 2 + 1))) (bsy9 (asV α 50 2 (α.1 50 2 + 1)) n) n (asV α 50 2 (α.1 50 2 + 1)))) n (ai9 n (snd9 (tk9 (snd9 (asV α 50 2 (α.1 50 2 + 1))) (bsy9 (asV α 50 2 (α.1 50 2 + 1)) n) n (asV α 50 2 (α.1 50 2 + 1)))) n (tk9 (snd9 (asV α 50 2 (α.1 50 2 + 1))) (bsy9 (asV α 50 2 (α.1 50 2 + 1)) n) n (asV α 50 2 (α.1 50 2 + 1))))
theorem tk_s (S b : Nat → Bool) (k : Nat) (α : As) : tk9 S b (k + 1) α = if (S k || (b k || decide ((tk9 S b k α).2.1 k = 0))) = true then tk9 S b k α else trn9 (tk9 S b k α) k := rfl
theorem ai_s (n : Nat) (S : Nat → Bool) (k : Nat) (α : As) : ai9 n S (k + 1) α = if S k = true then asV (asV (ai9 n S k α) k 10 ((ai9 n S k α).1 k 10 + 1)) k 9 ((ai9 n S k α).1 k 9 &&& bI (gt9 (ai9 n S k α) n S (tn9 ((ai9 n S k α).1 k 8)) k)) else ai9 n S k α := rfl
theorem en_s (S : Nat → Bool) (k : Nat) (α : As) : en9 S (k + 1) α = if S k = true then (if (en9 S k α).1 k 7 - 1 = 0 then end9 (de9 (en9 S k α) k) k else de9 (en9 S k α) k) else en9 S k α := rfl
/-- all queued frames can arrive -/
def VQ (n : Nat) (α : As) : Prop := ∀ i, i < n → α.2.1 i ≤ 4 ∧ ∀ k, k < α.2.1 i → FV9 n (α.2.2.1 i k)
theorem VQ.v {n : Nat} {α : As} (V : VQ n α) (i f : Nat) (v : Int32) : VQ n (asV α i f v) := V
theorem VQ.pop {n : Nat} {α : As} (V : VQ n α) (i : Nat) : VQ n (asPop α i) := fun j hj => by
  show (if j = i then α.2.1 i - 1 else α.2.1 j) ≤ 4 ∧ ∀ k, k < (if j = i then α.2.1 i - 1 else α.2.1 j) → FV9 n ((if j = i then fun k => α.2.2.1 i (k + 1) else α.2.2.1 j) k)
  obtain ⟨v1, v2⟩ := V j hj
  by_cases e : j = i
  · subst e
    rw [if_pos rfl, if_pos rfl]
    exact ⟨by omega, fun k hk => v2 (k + 1) (by omega)⟩
  · rw [if_neg e, if_neg e]
    exact ⟨v1, v2⟩
theorem VQ.push {n : Nat} {α : As} (V : VQ n α) {i : Nat} (hi : i < n) {w : Nat → Int32} (hw : FV9 n w) (h4 : α.2.1 i < 4) : VQ n (asPush α i w) := fun j hj => by
  show (if j = i then α.2.1 i + 1 else α.2.1 j) ≤ 4 ∧ ∀ k, k < (if j = i then α.2.1 i + 1 else α.2.1 j) → FV9 n ((if j = i then fun k => if k = α.2.1 i then w else α.2.2.1 i k else α.2.2.1 j) k)
  obtain ⟨v1, v2⟩ := V j hj
  by_cases e : j = i
  · subst e
    rw [if_pos rfl, if_pos rfl]
    refine ⟨by omega, fun k hk => ?_⟩
    show FV9 n (if k = α.2.1 j then w else α.2.2.1 j k)
    by_cases e2 : k = α.2.1 j
    · rw [if_pos e2]; exact hw
    · rw [if_neg e2]; exact v2 k (by omega)
  · rw [if_neg e, if_neg e]
    exact ⟨v1, v2⟩
theorem VQ.drp {n : Nat} {α : As} (V : VQ n α) (i : Nat) : VQ n (drp9 α i) := (V.pop i)
theorem VQ.trn {n : Nat} {α : As} (V : VQ n α) (i : Nat) : VQ n (trn9 α i) := by
  unfold trn9
  split
  · split
    · exact V.drp i
    · exact V
  · exact V
theorem FV9.psh {n : Nat} {w : Nat → Int32} (h : FV9 n w) : FV9 n (psh9 w) := h
theorem VQ.arv {n : Nat} {α : As} (V : VQ n α) (w : Nat → Int32) : VQ n (arv9 α w) := by
  unfold arv9
  split
  · exact V
  · exact V
theorem VQ.rcv {n : Nat} {α : As} (V : VQ n α) {j : Nat} (hj : j < n) {w : Nat → Int32} (hw : FV9 n w) : VQ n (rcv9 α j w) := by
  unfold rcv9
  split
  · exact V.arv w
  · split
    · exact V
    · rename_i q
      refine V.push hj hw.psh ?_
      have := (V j hj).1
      have h4 : ¬ α.2.1 j = 4 := fun e => q (Or.inr e)
      omega
theorem VQ.try {n : Nat} {α : As} (V : VQ n α) (i : Nat) : VQ n (try9 α i) := by
  unfold try9
  split
  · exact (V.v _ _ _).drp i
  · split
    · exact V
    · exact V
theorem VQ.fin {n : Nat} {α : As} (V : VQ n α) (i : Nat) (b : Bool) : VQ n (fin9 α i b) := by
  unfold fin9
  split
  · exact (V.v _ _ _).pop i
  · exact (V.v _ _ _).try i
theorem VQ.end {n : Nat} {α : As} (V : VQ n α) {i : Nat} (hx : tn9 (α.1 i 8) < n) (hw : FV9 n (α.2.2.1 i 0)) : VQ n (end9 α i) := by
  unfold end9
  split
  · exact V.fin i _
  · exact (V.rcv hx hw).fin i _
theorem exUp_congr {f g : Nat → Bool} : ∀ (m k : Nat), (∀ j, k ≤ j → j < k + m → f j = g j) → exUp f m k = exUp g m k
  | 0, _, _ => rfl
  | m + 1, k, h => by
    show (f k || exUp f m (k + 1)) = (g k || exUp g m (k + 1))
    rw [h k (Nat.le_refl _) (by omega), exUp_congr m (k + 1) fun j h1 h2 => h j (by omega) (by omega)]
section RSL
variable {τ τ' : Nat → Nat} {n A c B : Nat} {K : Int32} {p : Nat → Nat} {h h' : Hp} {α : As}
theorem RA.up {B' : Nat} (V : RA τ n p c B h α) (hB : B ≤ B') : RA τ n p c B' h α := by
  obtain ⟨v1, v2, v3, v4, v5, v6⟩ := V
  exact ⟨v1, v2, v3, v4, v5, fun i hi h0 => by
    obtain ⟨s, s1, s2⟩ := v6 i hi h0
    exact ⟨s, by omega, s2⟩⟩
theorem RA.gt (V : RA τ n p c B h α) {x j : Nat} (hx : x < n) (hj : j < n) {s : Int32} {S : Nat → Bool} (hs : ∀ k, k < n → tb s k = S k) : mgt h p x j s n = gt9 α n S x j := by
  have e : ∀ a, a < n → ∀ f, f ≤ 2 → gI h (p a) f = α.1 a f := fun a ha f hf => by
    have := V.1 a ha f (by omega) (by omega)
    unfold rf9 at this
    rwa [if_pos (by omega)] at this
  have ef : ∀ a d, a < n → d < n → mfar h (p a) (p d) = fX α a d := fun a d ha hd => by
    unfold mfar fX
    rw [e a ha 0 (by omega), e d hd 0 (by omega), e a ha 1 (by omega), e d hd 1 (by omega)]
  unfold mgt gt9
  rw [hs x hx, V.hr hx hj, exUp_congr n 0 fun k _ hk => ?_]
  unfold mgB gb9
  rw [hs k (by omega), V.hr hx (by omega), ef k x (by omega) hx, ef j x hj hx]
theorem RA.bs (V : RA τ n p c B h α) {i : Nat} (hi : i < n) (hB : B < 2147483646) (hs : gI h 121 1 = ii (B + 1)) : mbusy h 121 p i n = bsy9 α n i := by
  unfold mbusy bsy9
  refine exUp_congr n 0 fun k _ hk => ?_
  have hk' : k < n := by omega
  unfold mbz snd9
  rw [V.hr hi hk']
  have e7 : gI h (p k) 7 = α.1 k 7 := V.f hk' 7 (by omega) (by omega)
  rw [e7]
  by_cases q : 0 < α.1 k 7
  · obtain ⟨s, s1, s2⟩ := V.2.2.2.2.2 k hk' q
    rw [hs, s2, decide_eq_true (show ii s < ii (B + 1) by rw [ii_lt (by omega) (by omega)]; omega), Bool.and_true]
  · rw [decide_eq_false q, Bool.false_and]
theorem qx_slot1 (R : RM τ n p A c B K h) (V : RA τ n p c B h α) (hn1 : nx h + 100 ≤ 580300) (hs1 : sc h + 300000 ≤ 5700000) (hB : B + 1 ≤ 2000) : ∃ τ' g, (∀ Q, WP Gm j_Mdl_nextSlot 0 [some (.inr (.inl (some 121))), none, none, none] [] h Q = WP Gm j_Mdl_nextSlot 44 [some (.inr (.inl (some 121))), some (.inr (.inl (some (nx h)))), some (.inl (ii 0)), none] [] g Q) ∧ RM τ' n p A c (B + 1) K g ∧ RA τ' n p c (B + 1) g (asV α 50 2 (α.1 50 2 + 1)) ∧ τ' (nx h) = 12 ∧ (∀ k, k < n → gI g (nx h) k = bI (bsy9 (asV α 50 2 (α.1 50 2 + 1)) n k)) ∧ Ext τ h τ' g ∧ Ag τ S0 h g ∧ Air n B p 0 g ∧ (isK g (nx h) 107 = true ∧ ln g (nx h) = 8) ∧ nx g = nx h + 1 ∧ sc g = sc h + 8 := by
  have hn := R.n8
  have F := R.F
  have es : α.1 50 2 = ii B := by
    rw [← V.g (k := 2) (by omega) (by omega)]
    exact R.sl
  have es1 : α.1 50 2 + 1 = ii (B + 1) := by rw [es, ii_succ]
  generalize hh1 : sI h 121 1 (ii (B + 1)) = h1
  have R1 : RM τ n p A c (B + 1) K h1 := by rw [← hh1]; exact R.slotUp hB
  have V1 : RA τ n p c B h1 (asV α 50 2 (α.1 50 2 + 1)) := by rw [← hh1, ← es1]; exact V.setG (k := 2) R hn (by omega) (by omega) _
  generalize hβ : asV α 50 2 (α.1 50 2 + 1) = β at *
  have X1 : Ext τ h τ h1 := by rw [← hh1]; exact Ext.refl τ h
  have G1 : Ag τ S0 h h1 := by rw [← hh1]; exact (Ag.refl _ h).sI (by rw [R.t1]; unfold S0; omega)
  have n1 : nx h1 = nx h := by rw [← hh1]; rfl
  have s1 : sc h1 = sc h := by rw [← hh1]; rfl
  have tq : τ (nx h) = 1 := F.j (Nat.le_refl _)
  have f125 := F.1
  have hr : okR cM sM h1 1 8 = true := ok_big (by omega) (by omega)
  have z8 : (8 : Int32).toNatClampNeg = 8 := by decide
  have l8 : ((0 : Int32) ≤ 8) = True := eq_true (by decide)
  generalize hh2 : hN h1 107 8 8 = h2
  generalize hτ : upr τ (nx h) 12 = τ'
  have t12 : τ' (nx h) = 12 := by rw [← hτ]; exact upr_eq
  have n2 : nx h2 = nx h + 1 := by rw [← hh2, nx_hN, n1]
  have X2 : Ext τ h1 τ' h2 := by
    have := Ext.newr τ h1 107 8 8 12
    rw [n1, hτ, hh2] at this
    exact this
  have F2 : Fs τ' h2 := by
    have := R1.F.up 12 (h' := h2) (by omega)
    rw [n1, hτ] at this
    exact this
  have G2 : Ag τ (fun s => s = 0 ∨ s = 1) h1 h2 := by rw [← hh2]; exact (Ag.refl _ h1).hN (Or.inr (by rw [n1]; exact tq))
  have no : ∀ r, r ≠ 12 → r ≠ 1 → ∀ f, τ' f = r → f < nx h1 := fun r h12 h1r f hf => by
    by_cases e : f = nx h
    · rw [e, t12] at hf; exact absurd hf.symm h12
    · rw [← hτ, upr_ne e] at hf
      have := F.lt (x := f) (by rw [hf]; exact h1r)
      omega
  have R2 : RM τ' n p A c (B + 1) K h2 := R1.f01 X2 F2 G2 (no 9 (by omega) (by omega)) (no 10 (by omega) (by omega)) (no 11 (by omega) (by omega))
  have V2 : RA τ' n p c B h2 β := V1.fr R1 X2 G2 fun s w => by omega
  have k2 : isK h2 (nx h) 107 = true := by rw [← hh2, ← n1]; exact isK_new
  have l2 : ln h2 (nx h) = 8 := by rw [← hh2, ← n1]; exact if_pos rfl
  obtain ⟨g, e1, Xg, Gg, kg, lg, ng, sg, bg⟩ := loopR (fun Q k (g : Hp) => WP Gm j_Mdl_nextSlot 17 [some (.inr (.inl (some 121))), some (.inr (.inl (some (nx h)))), some (.inl (ii k)), none] [] g Q)
    (fun k g => Ext τ' h2 τ' g ∧ Ag τ' (fun s => s = 1 ∨ s = 12) h2 g ∧ isK g (nx h) 107 = true ∧ ln g (nx h) = 8 ∧ nx g = nx h + 1 ∧ sc g = sc h + 8 ∧ ∀ j, j < k → gI g (nx h) j = bI (bsy9 β n j)) n
    (fun k g hk hI => by
      obtain ⟨Xg, Gg, kg, lg, ng, sg, bg⟩ := hI
      have Rg := R2.f12 Xg Gg
      have Vg := V2.fr R2 Xg Gg fun s w => by omega
      have ik : inL g (nx h) (ii k) = true := inL_n (by omega) (by omega)
      have eb : mbusy g 121 p k n = bsy9 β n k := Vg.bs hk (by omega) Rg.sl
      refine ⟨sI g (nx h) k (bI (mbusy g 121 p k n)), fun Q => ?_, Xg.trans (Ext.same (fun _ => rfl) (fun _ => rfl) rfl), Gg.sI (Or.inr t12), kg, lg, ng, sg, fun j hj => ?_⟩
      · rw [e_Mdl_nextSlot_17]
        simp only [↓e_Mdl_nextSlot_0, ↓e_Mdl_nextSlot_1, ↓e_Mdl_nextSlot_2, ↓e_Mdl_nextSlot_5, ↓e_Mdl_nextSlot_6, ↓e_Mdl_nextSlot_7, ↓e_Mdl_nextSlot_10, ↓e_Mdl_nextSlot_12, ↓e_Mdl_nextSlot_14, ↓e_Mdl_nextSlot_15, ↓e_Mdl_nextSlot_16, ↓e_Mdl_nextSlot_18, ↓e_Mdl_nextSlot_19, ↓e_Mdl_nextSlot_22, ↓e_Mdl_nextSlot_25, ↓e_Mdl_nextSlot_28, ↓e_Mdl_nextSlot_29, ↓e_Mdl_nextSlot_30, ↓e_Mdl_nextSlot_31, ↓e_Mdl_nextSlot_32, ↓e_Mdl_nextSlot_35, ↓e_Mdl_nextSlot_36, ↓e_Mdl_nextSlot_39, ↓e_Mdl_nextSlot_42, ↓e_Mdl_nextSlot_43, ↓e_Mdl_nextSlot_45, ↓e_Mdl_nextSlot_46, ↓e_Mdl_nextSlot_49, ↓e_Mdl_nextSlot_52, ↓e_Mdl_nextSlot_55, ↓e_Mdl_nextSlot_56, ↓e_Mdl_nextSlot_59, ↓e_Mdl_nextSlot_60, ↓e_Mdl_nextSlot_63, ↓e_Mdl_nextSlot_66, ↓e_Mdl_nextSlot_69, ↓e_Mdl_nextSlot_72, ↓e_Mdl_nextSlot_73, ↓e_Mdl_nextSlot_74, ↓e_Mdl_nextSlot_75, ↓e_Mdl_nextSlot_78, ↓e_Mdl_nextSlot_79, ↓e_Mdl_nextSlot_82, ↓e_Mdl_nextSlot_83, ↓e_Mdl_nextSlot_86, ↓e_Mdl_nextSlot_89, ↓e_Mdl_nextSlot_92, ↓e_Mdl_nextSlot_95, ↓e_Mdl_nextSlot_98, ↓e_Mdl_nextSlot_99, ↓e_Mdl_nextSlot_100, ↓e_Mdl_nextSlot_103, ↓e_Mdl_nextSlot_104, ↓e_Mdl_nextSlot_107, ↓e_Mdl_nextSlot_110, ↓e_Mdl_nextSlot_113, ↓e_Mdl_nextSlot_116, ↓e_Mdl_nextSlot_119, ↓e_Mdl_nextSlot_120, ↓e_Mdl_nextSlot_123, ↓e_Mdl_nextSlot_124, ↓e_Mdl_nextSlot_125, ↓e_Mdl_nextSlot_127, ↓e_Mdl_nextSlot_128, ↓e_Mdl_nextSlot_131, ↓e_Mdl_nextSlot_134, ↓e_Mdl_nextSlot_137, ↓e_Mdl_nextSlot_138, ↓e_Mdl_nextSlot_139, ↓e_Mdl_nextSlot_142, ↓e_Mdl_nextSlot_145, ↓e_Mdl_nextSlot_148, ↓e_Mdl_nextSlot_149, ↓e_Mdl_nextSlot_152, ↓e_Mdl_nextSlot_153, ↓e_Mdl_nextSlot_156, ↓e_Mdl_nextSlot_159, ↓e_Mdl_nextSlot_160, ↓e_Mdl_nextSlot_163, ↓e_Mdl_nextSlot_164, ↓e_Mdl_nextSlot_165, ↓e_Mdl_nextSlot_168, ↓e_Mdl_nextSlot_169, ↓e_Mdl_nextSlot_172, ↓e_Mdl_nextSlot_173, ↓e_Mdl_nextSlot_176, ↓e_Mdl_nextSlot_179, ↓e_Mdl_nextSlot_180, ↓e_Mdl_nextSlot_183, ↓e_Mdl_nextSlot_184, ↓e_Mdl_nextSlot_185, ↓e_Mdl_nextSlot_188, ↓e_Mdl_nextSlot_189, ↓e_Mdl_nextSlot_192, ↓e_Mdl_nextSlot_195, ↓e_Mdl_nextSlot_198, ↓e_Mdl_nextSlot_199, ↓e_Mdl_nextSlot_200, ↓e_Mdl_nextSlot_203, ↓e_Mdl_nextSlot_204, ↓e_Mdl_nextSlot_207, ↓e_Mdl_nextSlot_210, ↓e_Mdl_nextSlot_213, ↓e_Mdl_nextSlot_214, ↓e_Mdl_nextSlot_216, ↓e_Mdl_nextSlot_217, ↓e_Mdl_nextSlot_220, ↓e_Mdl_nextSlot_223, ↓e_Mdl_nextSlot_226, ↓e_Mdl_nextSlot_227, ↓e_Mdl_nextSlot_228, ↓e_Mdl_nextSlot_231, ↓e_Mdl_nextSlot_234, ↓e_Mdl_nextSlot_237, ↓e_Mdl_nextSlot_238, ↓e_Mdl_nextSlot_241, ↓e_Mdl_nextSlot_242, ↓e_Mdl_nextSlot_245, ↓e_Mdl_nextSlot_248, ↓e_Mdl_nextSlot_249, ↓e_Mdl_nextSlot_252, ↓e_Mdl_nextSlot_253, ↓e_Mdl_nextSlot_254, ↓e_Mdl_nextSlot_257, ↓e_Mdl_nextSlot_258, ↓e_Mdl_nextSlot_261, ↓e_Mdl_nextSlot_262, ↓e_Mdl_nextSlot_265, ↓e_Mdl_nextSlot_268, ↓e_Mdl_nextSlot_271, ↓e_Mdl_nextSlot_274, ↓e_Mdl_nextSlot_275, ↓e_Mdl_nextSlot_276, ↓e_Mdl_nextSlot_279, ↓e_Mdl_nextSlot_282, ↓e_Mdl_nextSlot_285, not_true_eq_false, not_false_eq_true, one0, true_or, or_true, eq_self, bI_z, bI_nz, bI_o, b_ft, bI_1, bI_0, ↓kC_l, ↓kC_r, Option.toList_some, Option.toList_none, List.cons_append, List.nil_append, s1_0, s1_1i, s1_1r, s1_1w, s1_1n, s1_s, s2_0, s2_1i, s2_1r, s2_1w, s2_1n, s2_s, gI_sI, gI_sR, gI_sL, gI_sD, gR_sI, gR_sR, gR_sL, gR_sD, gL_sI, gL_sR, gL_sL, gL_sD, gD_sI, gD_sR, gD_sL, gD_sD, isK_sI, isK_sR, isK_sL, isK_sD, inL_sI, inL_sR, inL_sL, inL_sD, nx_sI, nx_sR, nx_sL, nx_sD, kd_sI, kd_sR, kd_sL, kd_sD, ln_sI, ln_sR, ln_sL, ln_sD, ↓reduceIte, c8_n, c8_1, c8_2, c8_3, c8_4, Nat.reduceAdd, Rg.k, Rg.r9, Rg.k122, q_nn _ Rg, le_f hn hk, q_bsy _ Rg hk, kg, ik, ii_nat (show k < 2147483648 by omega), ii_succ]
      · rw [gI_sI, eb]
        by_cases e : j = k
        · rw [if_pos ⟨rfl, e⟩, e]
        · rw [if_neg (fun w => e w.2)]; exact bg j (by omega)) n 0 h2 (by omega) ⟨Ext.refl τ' h2, Ag.refl _ h2, k2, l2, n2, by rw [← hh2, sc_hN, s1], fun j hj => absurd hj (by omega)⟩
  have Rg := R2.f12 Xg Gg
  have X3 : Ext τ h τ' h2 := X1.trans X2
  have G3 : Ag τ S0 h h2 := by rw [← hh2]; exact G1.hN (by rw [n1, tq]; exact S01)
  refine ⟨τ', g, fun Q => ?_, Rg, (V2.fr R2 Xg Gg fun s w => by omega).up (by omega), t12, bg, X3.trans Xg, G3.trans F X3 S01 (Gg.mono fun s w => by unfold S0; omega), fun j hj _ => ?_, ⟨kg, lg⟩, ng, sg⟩
  · have pre : WP Gm j_Mdl_nextSlot 0 [some (.inr (.inl (some 121))), none, none, none] [] h Q = WP Gm j_Mdl_nextSlot 17 [some (.inr (.inl (some 121))), some (.inr (.inl (some (nx h)))), some (.inl (ii 0)), none] [] h2 Q := by
      simp only [↓e_Mdl_nextSlot_0, ↓e_Mdl_nextSlot_1, ↓e_Mdl_nextSlot_2, ↓e_Mdl_nextSlot_5, ↓e_Mdl_nextSlot_6, ↓e_Mdl_nextSlot_7, ↓e_Mdl_nextSlot_10, ↓e_Mdl_nextSlot_12, ↓e_Mdl_nextSlot_14, ↓e_Mdl_nextSlot_15, ↓e_Mdl_nextSlot_16, ↓e_Mdl_nextSlot_18, ↓e_Mdl_nextSlot_19, ↓e_Mdl_nextSlot_22, ↓e_Mdl_nextSlot_25, ↓e_Mdl_nextSlot_28, ↓e_Mdl_nextSlot_29, ↓e_Mdl_nextSlot_30, ↓e_Mdl_nextSlot_31, ↓e_Mdl_nextSlot_32, ↓e_Mdl_nextSlot_35, ↓e_Mdl_nextSlot_36, ↓e_Mdl_nextSlot_39, ↓e_Mdl_nextSlot_42, ↓e_Mdl_nextSlot_43, ↓e_Mdl_nextSlot_45, ↓e_Mdl_nextSlot_46, ↓e_Mdl_nextSlot_49, ↓e_Mdl_nextSlot_52, ↓e_Mdl_nextSlot_55, ↓e_Mdl_nextSlot_56, ↓e_Mdl_nextSlot_59, ↓e_Mdl_nextSlot_60, ↓e_Mdl_nextSlot_63, ↓e_Mdl_nextSlot_66, ↓e_Mdl_nextSlot_69, ↓e_Mdl_nextSlot_72, ↓e_Mdl_nextSlot_73, ↓e_Mdl_nextSlot_74, ↓e_Mdl_nextSlot_75, ↓e_Mdl_nextSlot_78, ↓e_Mdl_nextSlot_79, ↓e_Mdl_nextSlot_82, ↓e_Mdl_nextSlot_83, ↓e_Mdl_nextSlot_86, ↓e_Mdl_nextSlot_89, ↓e_Mdl_nextSlot_92, ↓e_Mdl_nextSlot_95, ↓e_Mdl_nextSlot_98, ↓e_Mdl_nextSlot_99, ↓e_Mdl_nextSlot_100, ↓e_Mdl_nextSlot_103, ↓e_Mdl_nextSlot_104, ↓e_Mdl_nextSlot_107, ↓e_Mdl_nextSlot_110, ↓e_Mdl_nextSlot_113, ↓e_Mdl_nextSlot_116, ↓e_Mdl_nextSlot_119, ↓e_Mdl_nextSlot_120, ↓e_Mdl_nextSlot_123, ↓e_Mdl_nextSlot_124, ↓e_Mdl_nextSlot_125, ↓e_Mdl_nextSlot_127, ↓e_Mdl_nextSlot_128, ↓e_Mdl_nextSlot_131, ↓e_Mdl_nextSlot_134, ↓e_Mdl_nextSlot_137, ↓e_Mdl_nextSlot_138, ↓e_Mdl_nextSlot_139, ↓e_Mdl_nextSlot_142, ↓e_Mdl_nextSlot_145, ↓e_Mdl_nextSlot_148, ↓e_Mdl_nextSlot_149, ↓e_Mdl_nextSlot_152, ↓e_Mdl_nextSlot_153, ↓e_Mdl_nextSlot_156, ↓e_Mdl_nextSlot_159, ↓e_Mdl_nextSlot_160, ↓e_Mdl_nextSlot_163, ↓e_Mdl_nextSlot_164, ↓e_Mdl_nextSlot_165, ↓e_Mdl_nextSlot_168, ↓e_Mdl_nextSlot_169, ↓e_Mdl_nextSlot_172, ↓e_Mdl_nextSlot_173, ↓e_Mdl_nextSlot_176, ↓e_Mdl_nextSlot_179, ↓e_Mdl_nextSlot_180, ↓e_Mdl_nextSlot_183, ↓e_Mdl_nextSlot_184, ↓e_Mdl_nextSlot_185, ↓e_Mdl_nextSlot_188, ↓e_Mdl_nextSlot_189, ↓e_Mdl_nextSlot_192, ↓e_Mdl_nextSlot_195, ↓e_Mdl_nextSlot_198, ↓e_Mdl_nextSlot_199, ↓e_Mdl_nextSlot_200, ↓e_Mdl_nextSlot_203, ↓e_Mdl_nextSlot_204, ↓e_Mdl_nextSlot_207, ↓e_Mdl_nextSlot_210, ↓e_Mdl_nextSlot_213, ↓e_Mdl_nextSlot_214, ↓e_Mdl_nextSlot_216, ↓e_Mdl_nextSlot_217, ↓e_Mdl_nextSlot_220, ↓e_Mdl_nextSlot_223, ↓e_Mdl_nextSlot_226, ↓e_Mdl_nextSlot_227, ↓e_Mdl_nextSlot_228, ↓e_Mdl_nextSlot_231, ↓e_Mdl_nextSlot_234, ↓e_Mdl_nextSlot_237, ↓e_Mdl_nextSlot_238, ↓e_Mdl_nextSlot_241, ↓e_Mdl_nextSlot_242, ↓e_Mdl_nextSlot_245, ↓e_Mdl_nextSlot_248, ↓e_Mdl_nextSlot_249, ↓e_Mdl_nextSlot_252, ↓e_Mdl_nextSlot_253, ↓e_Mdl_nextSlot_254, ↓e_Mdl_nextSlot_257, ↓e_Mdl_nextSlot_258, ↓e_Mdl_nextSlot_261, ↓e_Mdl_nextSlot_262, ↓e_Mdl_nextSlot_265, ↓e_Mdl_nextSlot_268, ↓e_Mdl_nextSlot_271, ↓e_Mdl_nextSlot_274, ↓e_Mdl_nextSlot_275, ↓e_Mdl_nextSlot_276, ↓e_Mdl_nextSlot_279, ↓e_Mdl_nextSlot_282, ↓e_Mdl_nextSlot_285, not_true_eq_false, not_false_eq_true, one0, true_or, or_true, eq_self, bI_z, bI_nz, bI_o, b_ft, bI_1, bI_0, ↓kC_l, ↓kC_r, Option.toList_some, Option.toList_none, List.cons_append, List.nil_append, s1_0, s1_1i, s1_1r, s1_1w, s1_1n, s1_s, s2_0, s2_1i, s2_1r, s2_1w, s2_1n, s2_s, gI_sI, gI_sR, gI_sL, gI_sD, gR_sI, gR_sR, gR_sL, gR_sD, gL_sI, gL_sR, gL_sL, gL_sD, gD_sI, gD_sR, gD_sL, gD_sD, isK_sI, isK_sR, isK_sL, isK_sD, inL_sI, inL_sR, inL_sL, inL_sD, nx_sI, nx_sR, nx_sL, nx_sD, kd_sI, kd_sR, kd_sL, kd_sD, ln_sI, ln_sR, ln_sL, ln_sD, ↓reduceIte, c8_n, c8_1, c8_2, c8_3, c8_4, Nat.reduceAdd, R.k, R.sl, ii_succ, hh1, Nat.reduceEqDiff, false_and, and_false, and_self, z8, l8, Nat.reduceLeDiff, hr, n1, hh2]
      rfl
    rw [pre, e1 Q, e_Mdl_nextSlot_17]
    simp only [↓e_Mdl_nextSlot_0, ↓e_Mdl_nextSlot_1, ↓e_Mdl_nextSlot_2, ↓e_Mdl_nextSlot_5, ↓e_Mdl_nextSlot_6, ↓e_Mdl_nextSlot_7, ↓e_Mdl_nextSlot_10, ↓e_Mdl_nextSlot_12, ↓e_Mdl_nextSlot_14, ↓e_Mdl_nextSlot_15, ↓e_Mdl_nextSlot_16, ↓e_Mdl_nextSlot_18, ↓e_Mdl_nextSlot_19, ↓e_Mdl_nextSlot_22, ↓e_Mdl_nextSlot_25, ↓e_Mdl_nextSlot_28, ↓e_Mdl_nextSlot_29, ↓e_Mdl_nextSlot_30, ↓e_Mdl_nextSlot_31, ↓e_Mdl_nextSlot_32, ↓e_Mdl_nextSlot_35, ↓e_Mdl_nextSlot_36, ↓e_Mdl_nextSlot_39, ↓e_Mdl_nextSlot_42, ↓e_Mdl_nextSlot_43, ↓e_Mdl_nextSlot_45, ↓e_Mdl_nextSlot_46, ↓e_Mdl_nextSlot_49, ↓e_Mdl_nextSlot_52, ↓e_Mdl_nextSlot_55, ↓e_Mdl_nextSlot_56, ↓e_Mdl_nextSlot_59, ↓e_Mdl_nextSlot_60, ↓e_Mdl_nextSlot_63, ↓e_Mdl_nextSlot_66, ↓e_Mdl_nextSlot_69, ↓e_Mdl_nextSlot_72, ↓e_Mdl_nextSlot_73, ↓e_Mdl_nextSlot_74, ↓e_Mdl_nextSlot_75, ↓e_Mdl_nextSlot_78, ↓e_Mdl_nextSlot_79, ↓e_Mdl_nextSlot_82, ↓e_Mdl_nextSlot_83, ↓e_Mdl_nextSlot_86, ↓e_Mdl_nextSlot_89, ↓e_Mdl_nextSlot_92, ↓e_Mdl_nextSlot_95, ↓e_Mdl_nextSlot_98, ↓e_Mdl_nextSlot_99, ↓e_Mdl_nextSlot_100, ↓e_Mdl_nextSlot_103, ↓e_Mdl_nextSlot_104, ↓e_Mdl_nextSlot_107, ↓e_Mdl_nextSlot_110, ↓e_Mdl_nextSlot_113, ↓e_Mdl_nextSlot_116, ↓e_Mdl_nextSlot_119, ↓e_Mdl_nextSlot_120, ↓e_Mdl_nextSlot_123, ↓e_Mdl_nextSlot_124, ↓e_Mdl_nextSlot_125, ↓e_Mdl_nextSlot_127, ↓e_Mdl_nextSlot_128, ↓e_Mdl_nextSlot_131, ↓e_Mdl_nextSlot_134, ↓e_Mdl_nextSlot_137, ↓e_Mdl_nextSlot_138, ↓e_Mdl_nextSlot_139, ↓e_Mdl_nextSlot_142, ↓e_Mdl_nextSlot_145, ↓e_Mdl_nextSlot_148, ↓e_Mdl_nextSlot_149, ↓e_Mdl_nextSlot_152, ↓e_Mdl_nextSlot_153, ↓e_Mdl_nextSlot_156, ↓e_Mdl_nextSlot_159, ↓e_Mdl_nextSlot_160, ↓e_Mdl_nextSlot_163, ↓e_Mdl_nextSlot_164, ↓e_Mdl_nextSlot_165, ↓e_Mdl_nextSlot_168, ↓e_Mdl_nextSlot_169, ↓e_Mdl_nextSlot_172, ↓e_Mdl_nextSlot_173, ↓e_Mdl_nextSlot_176, ↓e_Mdl_nextSlot_179, ↓e_Mdl_nextSlot_180, ↓e_Mdl_nextSlot_183, ↓e_Mdl_nextSlot_184, ↓e_Mdl_nextSlot_185, ↓e_Mdl_nextSlot_188, ↓e_Mdl_nextSlot_189, ↓e_Mdl_nextSlot_192, ↓e_Mdl_nextSlot_195, ↓e_Mdl_nextSlot_198, ↓e_Mdl_nextSlot_199, ↓e_Mdl_nextSlot_200, ↓e_Mdl_nextSlot_203, ↓e_Mdl_nextSlot_204, ↓e_Mdl_nextSlot_207, ↓e_Mdl_nextSlot_210, ↓e_Mdl_nextSlot_213, ↓e_Mdl_nextSlot_214, ↓e_Mdl_nextSlot_216, ↓e_Mdl_nextSlot_217, ↓e_Mdl_nextSlot_220, ↓e_Mdl_nextSlot_223, ↓e_Mdl_nextSlot_226, ↓e_Mdl_nextSlot_227, ↓e_Mdl_nextSlot_228, ↓e_Mdl_nextSlot_231, ↓e_Mdl_nextSlot_234, ↓e_Mdl_nextSlot_237, ↓e_Mdl_nextSlot_238, ↓e_Mdl_nextSlot_241, ↓e_Mdl_nextSlot_242, ↓e_Mdl_nextSlot_245, ↓e_Mdl_nextSlot_248, ↓e_Mdl_nextSlot_249, ↓e_Mdl_nextSlot_252, ↓e_Mdl_nextSlot_253, ↓e_Mdl_nextSlot_254, ↓e_Mdl_nextSlot_257, ↓e_Mdl_nextSlot_258, ↓e_Mdl_nextSlot_261, ↓e_Mdl_nextSlot_262, ↓e_Mdl_nextSlot_265, ↓e_Mdl_nextSlot_268, ↓e_Mdl_nextSlot_271, ↓e_Mdl_nextSlot_274, ↓e_Mdl_nextSlot_275, ↓e_Mdl_nextSlot_276, ↓e_Mdl_nextSlot_279, ↓e_Mdl_nextSlot_282, ↓e_Mdl_nextSlot_285, not_true_eq_false, not_false_eq_true, one0, true_or, or_true, eq_self, bI_z, bI_nz, bI_o, b_ft, bI_1, bI_0, ↓kC_l, ↓kC_r, Option.toList_some, Option.toList_none, List.cons_append, List.nil_append, s1_0, s1_1i, s1_1r, s1_1w, s1_1n, s1_s, s2_0, s2_1i, s2_1r, s2_1w, s2_1n, s2_s, gI_sI, gI_sR, gI_sL, gI_sD, gR_sI, gR_sR, gR_sL, gR_sD, gL_sI, gL_sR, gL_sL, gL_sD, gD_sI, gD_sR, gD_sL, gD_sD, isK_sI, isK_sR, isK_sL, isK_sD, inL_sI, inL_sR, inL_sL, inL_sD, nx_sI, nx_sR, nx_sL, nx_sD, kd_sI, kd_sR, kd_sL, kd_sD, ln_sI, ln_sR, ln_sL, ln_sD, ↓reduceIte, c8_n, c8_1, c8_2, c8_3, c8_4, Nat.reduceAdd, Rg.k, Rg.r9, Rg.k122, q_nn _ Rg, le_t hn]
    rfl
  · obtain ⟨a, a1, a2⟩ := (R.nd hj).2.2.2.2
    refine ⟨a, a1, ?_⟩
    have tj := (R2.rl hj).1
    rw [(Gg (p j) (by rw [tj]; omega) 11).1, (G2 (p j) (by rw [R.nt hj]; omega) 11).1, ← hh1, gI_sI, if_neg (fun w => by have := w.2; omega)]
    exact a2
theorem trn_lf (α : As) {i j : Nat} (hi : i < 8) (hj : j < 8) (e : j ≠ i) : (trn9 α i).1 j 7 = α.1 j 7 := by
  unfold trn9
  split
  · split
    · show (if j = 50 ∧ 7 = 6 then _ else if j = i ∧ 7 = 6 then _ else α.1 j 7) = _
      rw [if_neg (by omega), if_neg (by omega)]
    · show (if j = i ∧ 7 = 11 then _ else if j = i ∧ 7 = 9 then _ else if j = i ∧ 7 = 7 then _ else if j = i ∧ 7 = 8 then _ else α.1 j 7) = _
      rw [if_neg (by omega), if_neg (by omega), if_neg (by omega), if_neg (by omega)]
  · show (if j = i ∧ 7 = 5 then _ else α.1 j 7) = _
    rw [if_neg (by omega)]
theorem tk_lf (S b : Nat → Bool) (α : As) : ∀ k j, k ≤ 8 → j < 8 → k ≤ j → (tk9 S b k α).1 j 7 = α.1 j 7
  | 0, _, _, _, _ => rfl
  | k + 1, j, h1, h2, h3 => by
    rw [tk_s]
    split
    · exact tk_lf S b α k j (by omega) h2 (by omega)
    · rw [trn_lf _ (by omega) h2 (by omega)]
      exact tk_lf S b α k j (by omega) h2 (by omega)
theorem VQ.tk {α : As} (V : VQ n α) (S b : Nat → Bool) : ∀ k, VQ n (tk9 S b k α)
  | 0 => V
  | k + 1 => by
    rw [tk_s]
    split
    · exact VQ.tk V S b k
    · exact (VQ.tk V S b k).trn k
theorem qx_slot2 {q : Nat} {v3 : Option MV} (R : RM τ n p A c B K h) (V : RA τ n p c B h α) (W : VQ n α) (hk : isK h q 107 = true) (hl : ln h q = 8) (tq : τ q = 12) {bz : Nat → Bool} (hz : ∀ k, k < n → gI h q k = bI (bz k)) {b : Nat} (Ai : Air n b p 0 h) : ∃ g, (∀ Q, WP Gm j_Mdl_nextSlot 44 [some (.inr (.inl (some 121))), some (.inr (.inl (some q))), some (.inl (ii 0)), v3] [] h Q = WP Gm j_Mdl_nextSlot 119 [some (.inr (.inl (some 121))), some (.inr (.inl (some q))), some (.inl (ii n)), v3] [] g Q) ∧ RM τ n p A c B K g ∧ RA τ n p c B g (tk9 (snd9 α) bz n α) ∧ Ext τ h τ g ∧ Ag τ S0 h g ∧ Air n b p 0 g ∧ nx g = nx h ∧ sc g = sc h := by
  have hn := R.n8
  have F := R.F
  obtain ⟨g, e1, Rg, Vg, Xg, Gg, Ag9, kg, lg, zg, ng, sg⟩ := loopR (fun Q k (g : Hp) => WP Gm j_Mdl_nextSlot 44 [some (.inr (.inl (some 121))), some (.inr (.inl (some q))), some (.inl (ii k)), v3] [] g Q)
    (fun k g => RM τ n p A c B K g ∧ RA τ n p c B g (tk9 (snd9 α) bz k α) ∧ Ext τ h τ g ∧ Ag τ S0 h g ∧ Air n b p 0 g ∧ isK g q 107 = true ∧ ln g q = 8 ∧ (∀ k, k < n → gI g q k = bI (bz k)) ∧ nx g = nx h ∧ sc g = sc h) n
    (fun k g hk hI => by
      obtain ⟨Rg, Vg, Xg, Gg, Ag9, kg, lg, zg, ng, sg⟩ := id hI
      have ik : inL g q (ii k) = true := inL_n (by omega) (by omega)
      obtain ⟨N1, -, -, -, -⟩ := Rg.nd hk
      obtain ⟨c0, c1, L⟩ := Vg.q hk
      have e7 : gI g (p k) 7 = α.1 k 7 := (Vg.f hk 7 (by omega) (by omega)).trans (tk_lf _ _ α k k (by omega) (by omega) (Nat.le_refl _))
      have Wk := W.tk (snd9 α) bz k
      rw [tk_s]
      by_cases h1 : 0 < gI g (p k) 7
      · have es : snd9 α k = true := by unfold snd9; rw [← e7]; exact decide_eq_true h1
        rw [es, Bool.true_or, if_pos rfl]
        refine ⟨g, fun Q => ?_, hI⟩
        rw [e_Mdl_nextSlot_44]
        simp only [↓e_Mdl_nextSlot_0, ↓e_Mdl_nextSlot_1, ↓e_Mdl_nextSlot_2, ↓e_Mdl_nextSlot_5, ↓e_Mdl_nextSlot_6, ↓e_Mdl_nextSlot_7, ↓e_Mdl_nextSlot_10, ↓e_Mdl_nextSlot_12, ↓e_Mdl_nextSlot_14, ↓e_Mdl_nextSlot_15, ↓e_Mdl_nextSlot_16, ↓e_Mdl_nextSlot_18, ↓e_Mdl_nextSlot_19, ↓e_Mdl_nextSlot_22, ↓e_Mdl_nextSlot_25, ↓e_Mdl_nextSlot_28, ↓e_Mdl_nextSlot_29, ↓e_Mdl_nextSlot_30, ↓e_Mdl_nextSlot_31, ↓e_Mdl_nextSlot_32, ↓e_Mdl_nextSlot_35, ↓e_Mdl_nextSlot_36, ↓e_Mdl_nextSlot_39, ↓e_Mdl_nextSlot_42, ↓e_Mdl_nextSlot_43, ↓e_Mdl_nextSlot_45, ↓e_Mdl_nextSlot_46, ↓e_Mdl_nextSlot_49, ↓e_Mdl_nextSlot_52, ↓e_Mdl_nextSlot_55, ↓e_Mdl_nextSlot_56, ↓e_Mdl_nextSlot_59, ↓e_Mdl_nextSlot_60, ↓e_Mdl_nextSlot_63, ↓e_Mdl_nextSlot_66, ↓e_Mdl_nextSlot_69, ↓e_Mdl_nextSlot_72, ↓e_Mdl_nextSlot_73, ↓e_Mdl_nextSlot_74, ↓e_Mdl_nextSlot_75, ↓e_Mdl_nextSlot_78, ↓e_Mdl_nextSlot_79, ↓e_Mdl_nextSlot_82, ↓e_Mdl_nextSlot_83, ↓e_Mdl_nextSlot_86, ↓e_Mdl_nextSlot_89, ↓e_Mdl_nextSlot_92, ↓e_Mdl_nextSlot_95, ↓e_Mdl_nextSlot_98, ↓e_Mdl_nextSlot_99, ↓e_Mdl_nextSlot_100, ↓e_Mdl_nextSlot_103, ↓e_Mdl_nextSlot_104, ↓e_Mdl_nextSlot_107, ↓e_Mdl_nextSlot_110, ↓e_Mdl_nextSlot_113, ↓e_Mdl_nextSlot_116, ↓e_Mdl_nextSlot_119, ↓e_Mdl_nextSlot_120, ↓e_Mdl_nextSlot_123, ↓e_Mdl_nextSlot_124, ↓e_Mdl_nextSlot_125, ↓e_Mdl_nextSlot_127, ↓e_Mdl_nextSlot_128, ↓e_Mdl_nextSlot_131, ↓e_Mdl_nextSlot_134, ↓e_Mdl_nextSlot_137, ↓e_Mdl_nextSlot_138, ↓e_Mdl_nextSlot_139, ↓e_Mdl_nextSlot_142, ↓e_Mdl_nextSlot_145, ↓e_Mdl_nextSlot_148, ↓e_Mdl_nextSlot_149, ↓e_Mdl_nextSlot_152, ↓e_Mdl_nextSlot_153, ↓e_Mdl_nextSlot_156, ↓e_Mdl_nextSlot_159, ↓e_Mdl_nextSlot_160, ↓e_Mdl_nextSlot_163, ↓e_Mdl_nextSlot_164, ↓e_Mdl_nextSlot_165, ↓e_Mdl_nextSlot_168, ↓e_Mdl_nextSlot_169, ↓e_Mdl_nextSlot_172, ↓e_Mdl_nextSlot_173, ↓e_Mdl_nextSlot_176, ↓e_Mdl_nextSlot_179, ↓e_Mdl_nextSlot_180, ↓e_Mdl_nextSlot_183, ↓e_Mdl_nextSlot_184, ↓e_Mdl_nextSlot_185, ↓e_Mdl_nextSlot_188, ↓e_Mdl_nextSlot_189, ↓e_Mdl_nextSlot_192, ↓e_Mdl_nextSlot_195, ↓e_Mdl_nextSlot_198, ↓e_Mdl_nextSlot_199, ↓e_Mdl_nextSlot_200, ↓e_Mdl_nextSlot_203, ↓e_Mdl_nextSlot_204, ↓e_Mdl_nextSlot_207, ↓e_Mdl_nextSlot_210, ↓e_Mdl_nextSlot_213, ↓e_Mdl_nextSlot_214, ↓e_Mdl_nextSlot_216, ↓e_Mdl_nextSlot_217, ↓e_Mdl_nextSlot_220, ↓e_Mdl_nextSlot_223, ↓e_Mdl_nextSlot_226, ↓e_Mdl_nextSlot_227, ↓e_Mdl_nextSlot_228, ↓e_Mdl_nextSlot_231, ↓e_Mdl_nextSlot_234, ↓e_Mdl_nextSlot_237, ↓e_Mdl_nextSlot_238, ↓e_Mdl_nextSlot_241, ↓e_Mdl_nextSlot_242, ↓e_Mdl_nextSlot_245, ↓e_Mdl_nextSlot_248, ↓e_Mdl_nextSlot_249, ↓e_Mdl_nextSlot_252, ↓e_Mdl_nextSlot_253, ↓e_Mdl_nextSlot_254, ↓e_Mdl_nextSlot_257, ↓e_Mdl_nextSlot_258, ↓e_Mdl_nextSlot_261, ↓e_Mdl_nextSlot_262, ↓e_Mdl_nextSlot_265, ↓e_Mdl_nextSlot_268, ↓e_Mdl_nextSlot_271, ↓e_Mdl_nextSlot_274, ↓e_Mdl_nextSlot_275, ↓e_Mdl_nextSlot_276, ↓e_Mdl_nextSlot_279, ↓e_Mdl_nextSlot_282, ↓e_Mdl_nextSlot_285, not_true_eq_false, not_false_eq_true, one0, true_or, or_true, eq_self, bI_z, bI_nz, bI_o, b_ft, bI_1, bI_0, ↓kC_l, ↓kC_r, Option.toList_some, Option.toList_none, List.cons_append, List.nil_append, s1_0, s1_1i, s1_1r, s1_1w, s1_1n, s1_s, s2_0, s2_1i, s2_1r, s2_1w, s2_1n, s2_s, gI_sI, gI_sR, gI_sL, gI_sD, gR_sI, gR_sR, gR_sL, gR_sD, gL_sI, gL_sR, gL_sL, gL_sD, gD_sI, gD_sR, gD_sL, gD_sD, isK_sI, isK_sR, isK_sL, isK_sD, inL_sI, inL_sR, inL_sL, inL_sD, nx_sI, nx_sR, nx_sL, nx_sD, kd_sI, kd_sR, kd_sL, kd_sD, ln_sI, ln_sR, ln_sL, ln_sD, ↓reduceIte, c8_n, c8_1, c8_2, c8_3, c8_4, Nat.reduceAdd, Rg.k, Rg.r9, Rg.k122, q_nn _ Rg, le_f hn hk, q_ng _ Rg hk, Rg.nk hk, Rg.nz hk, q_msends _ (Rg.nk hk), h1, decide_true, ii_succ]
      · have es : snd9 α k = false := by unfold snd9; rw [← e7]; exact decide_eq_false h1
        rw [es, Bool.false_or]
        cases hb : bz k with
        | false =>
          have h2 : gI g q k = 0 := by rw [zg k hk, hb]; rfl
          rw [Bool.false_or]
          by_cases h3 : (tk9 (snd9 α) bz k α).2.1 k = 0
          · rw [decide_eq_true h3, if_pos rfl]
            refine ⟨g, fun Q => ?_, hI⟩
            rw [e_Mdl_nextSlot_44]
            simp only [↓e_Mdl_nextSlot_0, ↓e_Mdl_nextSlot_1, ↓e_Mdl_nextSlot_2, ↓e_Mdl_nextSlot_5, ↓e_Mdl_nextSlot_6, ↓e_Mdl_nextSlot_7, ↓e_Mdl_nextSlot_10, ↓e_Mdl_nextSlot_12, ↓e_Mdl_nextSlot_14, ↓e_Mdl_nextSlot_15, ↓e_Mdl_nextSlot_16, ↓e_Mdl_nextSlot_18, ↓e_Mdl_nextSlot_19, ↓e_Mdl_nextSlot_22, ↓e_Mdl_nextSlot_25, ↓e_Mdl_nextSlot_28, ↓e_Mdl_nextSlot_29, ↓e_Mdl_nextSlot_30, ↓e_Mdl_nextSlot_31, ↓e_Mdl_nextSlot_32, ↓e_Mdl_nextSlot_35, ↓e_Mdl_nextSlot_36, ↓e_Mdl_nextSlot_39, ↓e_Mdl_nextSlot_42, ↓e_Mdl_nextSlot_43, ↓e_Mdl_nextSlot_45, ↓e_Mdl_nextSlot_46, ↓e_Mdl_nextSlot_49, ↓e_Mdl_nextSlot_52, ↓e_Mdl_nextSlot_55, ↓e_Mdl_nextSlot_56, ↓e_Mdl_nextSlot_59, ↓e_Mdl_nextSlot_60, ↓e_Mdl_nextSlot_63, ↓e_Mdl_nextSlot_66, ↓e_Mdl_nextSlot_69, ↓e_Mdl_nextSlot_72, ↓e_Mdl_nextSlot_73, ↓e_Mdl_nextSlot_74, ↓e_Mdl_nextSlot_75, ↓e_Mdl_nextSlot_78, ↓e_Mdl_nextSlot_79, ↓e_Mdl_nextSlot_82, ↓e_Mdl_nextSlot_83, ↓e_Mdl_nextSlot_86, ↓e_Mdl_nextSlot_89, ↓e_Mdl_nextSlot_92, ↓e_Mdl_nextSlot_95, ↓e_Mdl_nextSlot_98, ↓e_Mdl_nextSlot_99, ↓e_Mdl_nextSlot_100, ↓e_Mdl_nextSlot_103, ↓e_Mdl_nextSlot_104, ↓e_Mdl_nextSlot_107, ↓e_Mdl_nextSlot_110, ↓e_Mdl_nextSlot_113, ↓e_Mdl_nextSlot_116, ↓e_Mdl_nextSlot_119, ↓e_Mdl_nextSlot_120, ↓e_Mdl_nextSlot_123, ↓e_Mdl_nextSlot_124, ↓e_Mdl_nextSlot_125, ↓e_Mdl_nextSlot_127, ↓e_Mdl_nextSlot_128, ↓e_Mdl_nextSlot_131, ↓e_Mdl_nextSlot_134, ↓e_Mdl_nextSlot_137, ↓e_Mdl_nextSlot_138, ↓e_Mdl_nextSlot_139, ↓e_Mdl_nextSlot_142, ↓e_Mdl_nextSlot_145, ↓e_Mdl_nextSlot_148, ↓e_Mdl_nextSlot_149, ↓e_Mdl_nextSlot_152, ↓e_Mdl_nextSlot_153, ↓e_Mdl_nextSlot_156, ↓e_Mdl_nextSlot_159, ↓e_Mdl_nextSlot_160, ↓e_Mdl_nextSlot_163, ↓e_Mdl_nextSlot_164, ↓e_Mdl_nextSlot_165, ↓e_Mdl_nextSlot_168, ↓e_Mdl_nextSlot_169, ↓e_Mdl_nextSlot_172, ↓e_Mdl_nextSlot_173, ↓e_Mdl_nextSlot_176, ↓e_Mdl_nextSlot_179, ↓e_Mdl_nextSlot_180, ↓e_Mdl_nextSlot_183, ↓e_Mdl_nextSlot_184, ↓e_Mdl_nextSlot_185, ↓e_Mdl_nextSlot_188, ↓e_Mdl_nextSlot_189, ↓e_Mdl_nextSlot_192, ↓e_Mdl_nextSlot_195, ↓e_Mdl_nextSlot_198, ↓e_Mdl_nextSlot_199, ↓e_Mdl_nextSlot_200, ↓e_Mdl_nextSlot_203, ↓e_Mdl_nextSlot_204, ↓e_Mdl_nextSlot_207, ↓e_Mdl_nextSlot_210, ↓e_Mdl_nextSlot_213, ↓e_Mdl_nextSlot_214, ↓e_Mdl_nextSlot_216, ↓e_Mdl_nextSlot_217, ↓e_Mdl_nextSlot_220, ↓e_Mdl_nextSlot_223, ↓e_Mdl_nextSlot_226, ↓e_Mdl_nextSlot_227, ↓e_Mdl_nextSlot_228, ↓e_Mdl_nextSlot_231, ↓e_Mdl_nextSlot_234, ↓e_Mdl_nextSlot_237, ↓e_Mdl_nextSlot_238, ↓e_Mdl_nextSlot_241, ↓e_Mdl_nextSlot_242, ↓e_Mdl_nextSlot_245, ↓e_Mdl_nextSlot_248, ↓e_Mdl_nextSlot_249, ↓e_Mdl_nextSlot_252, ↓e_Mdl_nextSlot_253, ↓e_Mdl_nextSlot_254, ↓e_Mdl_nextSlot_257, ↓e_Mdl_nextSlot_258, ↓e_Mdl_nextSlot_261, ↓e_Mdl_nextSlot_262, ↓e_Mdl_nextSlot_265, ↓e_Mdl_nextSlot_268, ↓e_Mdl_nextSlot_271, ↓e_Mdl_nextSlot_274, ↓e_Mdl_nextSlot_275, ↓e_Mdl_nextSlot_276, ↓e_Mdl_nextSlot_279, ↓e_Mdl_nextSlot_282, ↓e_Mdl_nextSlot_285, not_true_eq_false, not_false_eq_true, one0, true_or, or_true, eq_self, bI_z, bI_nz, bI_o, b_ft, bI_1, bI_0, ↓kC_l, ↓kC_r, Option.toList_some, Option.toList_none, List.cons_append, List.nil_append, s1_0, s1_1i, s1_1r, s1_1w, s1_1n, s1_s, s2_0, s2_1i, s2_1r, s2_1w, s2_1n, s2_s, gI_sI, gI_sR, gI_sL, gI_sD, gR_sI, gR_sR, gR_sL, gR_sD, gL_sI, gL_sR, gL_sL, gL_sD, gD_sI, gD_sR, gD_sL, gD_sD, isK_sI, isK_sR, isK_sL, isK_sD, inL_sI, inL_sR, inL_sL, inL_sD, nx_sI, nx_sR, nx_sL, nx_sD, kd_sI, kd_sR, kd_sL, kd_sD, ln_sI, ln_sR, ln_sL, ln_sD, ↓reduceIte, c8_n, c8_1, c8_2, c8_3, c8_4, Nat.reduceAdd, Rg.k, Rg.r9, Rg.k122, q_nn _ Rg, le_f hn hk, q_ng _ Rg hk, Rg.nk hk, Rg.nz hk, q_msends _ (Rg.nk hk), h1, decide_false, kg, ik, ii_nat (show k < 2147483648 by omega), h2, N1.2.2.1.1, L.kd, q_zempty _ L, h3, decide_true, ii_succ]
          · rw [decide_eq_false h3, if_neg (by decide)]
            obtain ⟨a, t, b', w0, ha, w1, ht, -⟩ := (Wk k hk).2 0 (by omega)
            obtain ⟨u, u1, u2, u2', u3, u4, u5, u6, u7⟩ := qx_begin Rg Vg hk h1 h3 ht w1 Rg.sl
            refine ⟨u, fun Q => ?_, u2, u2', Xg.trans u3, Gg.trans F Xg S01 (u4.mono fun s w => by unfold Sdr at w; unfold S0; omega), fun j hj hj0 => ?_, u3.k kg, by rw [u3.l kg]; exact lg, fun j hj => ?_, by omega, by omega⟩
            · rw [e_Mdl_nextSlot_44]
              simp only [↓e_Mdl_nextSlot_0, ↓e_Mdl_nextSlot_1, ↓e_Mdl_nextSlot_2, ↓e_Mdl_nextSlot_5, ↓e_Mdl_nextSlot_6, ↓e_Mdl_nextSlot_7, ↓e_Mdl_nextSlot_10, ↓e_Mdl_nextSlot_12, ↓e_Mdl_nextSlot_14, ↓e_Mdl_nextSlot_15, ↓e_Mdl_nextSlot_16, ↓e_Mdl_nextSlot_18, ↓e_Mdl_nextSlot_19, ↓e_Mdl_nextSlot_22, ↓e_Mdl_nextSlot_25, ↓e_Mdl_nextSlot_28, ↓e_Mdl_nextSlot_29, ↓e_Mdl_nextSlot_30, ↓e_Mdl_nextSlot_31, ↓e_Mdl_nextSlot_32, ↓e_Mdl_nextSlot_35, ↓e_Mdl_nextSlot_36, ↓e_Mdl_nextSlot_39, ↓e_Mdl_nextSlot_42, ↓e_Mdl_nextSlot_43, ↓e_Mdl_nextSlot_45, ↓e_Mdl_nextSlot_46, ↓e_Mdl_nextSlot_49, ↓e_Mdl_nextSlot_52, ↓e_Mdl_nextSlot_55, ↓e_Mdl_nextSlot_56, ↓e_Mdl_nextSlot_59, ↓e_Mdl_nextSlot_60, ↓e_Mdl_nextSlot_63, ↓e_Mdl_nextSlot_66, ↓e_Mdl_nextSlot_69, ↓e_Mdl_nextSlot_72, ↓e_Mdl_nextSlot_73, ↓e_Mdl_nextSlot_74, ↓e_Mdl_nextSlot_75, ↓e_Mdl_nextSlot_78, ↓e_Mdl_nextSlot_79, ↓e_Mdl_nextSlot_82, ↓e_Mdl_nextSlot_83, ↓e_Mdl_nextSlot_86, ↓e_Mdl_nextSlot_89, ↓e_Mdl_nextSlot_92, ↓e_Mdl_nextSlot_95, ↓e_Mdl_nextSlot_98, ↓e_Mdl_nextSlot_99, ↓e_Mdl_nextSlot_100, ↓e_Mdl_nextSlot_103, ↓e_Mdl_nextSlot_104, ↓e_Mdl_nextSlot_107, ↓e_Mdl_nextSlot_110, ↓e_Mdl_nextSlot_113, ↓e_Mdl_nextSlot_116, ↓e_Mdl_nextSlot_119, ↓e_Mdl_nextSlot_120, ↓e_Mdl_nextSlot_123, ↓e_Mdl_nextSlot_124, ↓e_Mdl_nextSlot_125, ↓e_Mdl_nextSlot_127, ↓e_Mdl_nextSlot_128, ↓e_Mdl_nextSlot_131, ↓e_Mdl_nextSlot_134, ↓e_Mdl_nextSlot_137, ↓e_Mdl_nextSlot_138, ↓e_Mdl_nextSlot_139, ↓e_Mdl_nextSlot_142, ↓e_Mdl_nextSlot_145, ↓e_Mdl_nextSlot_148, ↓e_Mdl_nextSlot_149, ↓e_Mdl_nextSlot_152, ↓e_Mdl_nextSlot_153, ↓e_Mdl_nextSlot_156, ↓e_Mdl_nextSlot_159, ↓e_Mdl_nextSlot_160, ↓e_Mdl_nextSlot_163, ↓e_Mdl_nextSlot_164, ↓e_Mdl_nextSlot_165, ↓e_Mdl_nextSlot_168, ↓e_Mdl_nextSlot_169, ↓e_Mdl_nextSlot_172, ↓e_Mdl_nextSlot_173, ↓e_Mdl_nextSlot_176, ↓e_Mdl_nextSlot_179, ↓e_Mdl_nextSlot_180, ↓e_Mdl_nextSlot_183, ↓e_Mdl_nextSlot_184, ↓e_Mdl_nextSlot_185, ↓e_Mdl_nextSlot_188, ↓e_Mdl_nextSlot_189, ↓e_Mdl_nextSlot_192, ↓e_Mdl_nextSlot_195, ↓e_Mdl_nextSlot_198, ↓e_Mdl_nextSlot_199, ↓e_Mdl_nextSlot_200, ↓e_Mdl_nextSlot_203, ↓e_Mdl_nextSlot_204, ↓e_Mdl_nextSlot_207, ↓e_Mdl_nextSlot_210, ↓e_Mdl_nextSlot_213, ↓e_Mdl_nextSlot_214, ↓e_Mdl_nextSlot_216, ↓e_Mdl_nextSlot_217, ↓e_Mdl_nextSlot_220, ↓e_Mdl_nextSlot_223, ↓e_Mdl_nextSlot_226, ↓e_Mdl_nextSlot_227, ↓e_Mdl_nextSlot_228, ↓e_Mdl_nextSlot_231, ↓e_Mdl_nextSlot_234, ↓e_Mdl_nextSlot_237, ↓e_Mdl_nextSlot_238, ↓e_Mdl_nextSlot_241, ↓e_Mdl_nextSlot_242, ↓e_Mdl_nextSlot_245, ↓e_Mdl_nextSlot_248, ↓e_Mdl_nextSlot_249, ↓e_Mdl_nextSlot_252, ↓e_Mdl_nextSlot_253, ↓e_Mdl_nextSlot_254, ↓e_Mdl_nextSlot_257, ↓e_Mdl_nextSlot_258, ↓e_Mdl_nextSlot_261, ↓e_Mdl_nextSlot_262, ↓e_Mdl_nextSlot_265, ↓e_Mdl_nextSlot_268, ↓e_Mdl_nextSlot_271, ↓e_Mdl_nextSlot_274, ↓e_Mdl_nextSlot_275, ↓e_Mdl_nextSlot_276, ↓e_Mdl_nextSlot_279, ↓e_Mdl_nextSlot_282, ↓e_Mdl_nextSlot_285, not_true_eq_false, not_false_eq_true, one0, true_or, or_true, eq_self, bI_z, bI_nz, bI_o, b_ft, bI_1, bI_0, ↓kC_l, ↓kC_r, Option.toList_some, Option.toList_none, List.cons_append, List.nil_append, s1_0, s1_1i, s1_1r, s1_1w, s1_1n, s1_s, s2_0, s2_1i, s2_1r, s2_1w, s2_1n, s2_s, gI_sI, gI_sR, gI_sL, gI_sD, gR_sI, gR_sR, gR_sL, gR_sD, gL_sI, gL_sR, gL_sL, gL_sD, gD_sI, gD_sR, gD_sL, gD_sD, isK_sI, isK_sR, isK_sL, isK_sD, inL_sI, inL_sR, inL_sL, inL_sD, nx_sI, nx_sR, nx_sL, nx_sD, kd_sI, kd_sR, kd_sL, kd_sD, ln_sI, ln_sR, ln_sL, ln_sD, ↓reduceIte, c8_n, c8_1, c8_2, c8_3, c8_4, Nat.reduceAdd, Rg.k, Rg.r9, Rg.k122, q_nn _ Rg, le_f hn hk, q_ng _ Rg hk, Rg.nk hk, Rg.nz hk, q_msends _ (Rg.nk hk), h1, decide_false, kg, ik, ii_nat (show k < 2147483648 by omega), h2, N1.2.2.1.1, L.kd, q_zempty _ L, h3, u1, ii_succ]
            · obtain ⟨a, a1, a2⟩ := Ag9 j hj hj0
              refine ⟨a, a1, ?_⟩
              by_cases e : j = k
              · subst e
                rw [u5]
                exact a2
              · rw [(u4 (p j) (by rw [Rg.nt hj]; unfold Sdr; omega) 11).1]
                exact a2
            · rw [(u4 q (by rw [tq]; unfold Sdr; omega) j).1]; exact zg j hj
        | true =>
          have h2 : ¬ gI g q k = 0 := by rw [zg k hk, hb]; decide
          rw [Bool.true_or, if_pos rfl]
          refine ⟨g, fun Q => ?_, hI⟩
          rw [e_Mdl_nextSlot_44]
          simp only [↓e_Mdl_nextSlot_0, ↓e_Mdl_nextSlot_1, ↓e_Mdl_nextSlot_2, ↓e_Mdl_nextSlot_5, ↓e_Mdl_nextSlot_6, ↓e_Mdl_nextSlot_7, ↓e_Mdl_nextSlot_10, ↓e_Mdl_nextSlot_12, ↓e_Mdl_nextSlot_14, ↓e_Mdl_nextSlot_15, ↓e_Mdl_nextSlot_16, ↓e_Mdl_nextSlot_18, ↓e_Mdl_nextSlot_19, ↓e_Mdl_nextSlot_22, ↓e_Mdl_nextSlot_25, ↓e_Mdl_nextSlot_28, ↓e_Mdl_nextSlot_29, ↓e_Mdl_nextSlot_30, ↓e_Mdl_nextSlot_31, ↓e_Mdl_nextSlot_32, ↓e_Mdl_nextSlot_35, ↓e_Mdl_nextSlot_36, ↓e_Mdl_nextSlot_39, ↓e_Mdl_nextSlot_42, ↓e_Mdl_nextSlot_43, ↓e_Mdl_nextSlot_45, ↓e_Mdl_nextSlot_46, ↓e_Mdl_nextSlot_49, ↓e_Mdl_nextSlot_52, ↓e_Mdl_nextSlot_55, ↓e_Mdl_nextSlot_56, ↓e_Mdl_nextSlot_59, ↓e_Mdl_nextSlot_60, ↓e_Mdl_nextSlot_63, ↓e_Mdl_nextSlot_66, ↓e_Mdl_nextSlot_69, ↓e_Mdl_nextSlot_72, ↓e_Mdl_nextSlot_73, ↓e_Mdl_nextSlot_74, ↓e_Mdl_nextSlot_75, ↓e_Mdl_nextSlot_78, ↓e_Mdl_nextSlot_79, ↓e_Mdl_nextSlot_82, ↓e_Mdl_nextSlot_83, ↓e_Mdl_nextSlot_86, ↓e_Mdl_nextSlot_89, ↓e_Mdl_nextSlot_92, ↓e_Mdl_nextSlot_95, ↓e_Mdl_nextSlot_98, ↓e_Mdl_nextSlot_99, ↓e_Mdl_nextSlot_100, ↓e_Mdl_nextSlot_103, ↓e_Mdl_nextSlot_104, ↓e_Mdl_nextSlot_107, ↓e_Mdl_nextSlot_110, ↓e_Mdl_nextSlot_113, ↓e_Mdl_nextSlot_116, ↓e_Mdl_nextSlot_119, ↓e_Mdl_nextSlot_120, ↓e_Mdl_nextSlot_123, ↓e_Mdl_nextSlot_124, ↓e_Mdl_nextSlot_125, ↓e_Mdl_nextSlot_127, ↓e_Mdl_nextSlot_128, ↓e_Mdl_nextSlot_131, ↓e_Mdl_nextSlot_134, ↓e_Mdl_nextSlot_137, ↓e_Mdl_nextSlot_138, ↓e_Mdl_nextSlot_139, ↓e_Mdl_nextSlot_142, ↓e_Mdl_nextSlot_145, ↓e_Mdl_nextSlot_148, ↓e_Mdl_nextSlot_149, ↓e_Mdl_nextSlot_152, ↓e_Mdl_nextSlot_153, ↓e_Mdl_nextSlot_156, ↓e_Mdl_nextSlot_159, ↓e_Mdl_nextSlot_160, ↓e_Mdl_nextSlot_163, ↓e_Mdl_nextSlot_164, ↓e_Mdl_nextSlot_165, ↓e_Mdl_nextSlot_168, ↓e_Mdl_nextSlot_169, ↓e_Mdl_nextSlot_172, ↓e_Mdl_nextSlot_173, ↓e_Mdl_nextSlot_176, ↓e_Mdl_nextSlot_179, ↓e_Mdl_nextSlot_180, ↓e_Mdl_nextSlot_183, ↓e_Mdl_nextSlot_184, ↓e_Mdl_nextSlot_185, ↓e_Mdl_nextSlot_188, ↓e_Mdl_nextSlot_189, ↓e_Mdl_nextSlot_192, ↓e_Mdl_nextSlot_195, ↓e_Mdl_nextSlot_198, ↓e_Mdl_nextSlot_199, ↓e_Mdl_nextSlot_200, ↓e_Mdl_nextSlot_203, ↓e_Mdl_nextSlot_204, ↓e_Mdl_nextSlot_207, ↓e_Mdl_nextSlot_210, ↓e_Mdl_nextSlot_213, ↓e_Mdl_nextSlot_214, ↓e_Mdl_nextSlot_216, ↓e_Mdl_nextSlot_217, ↓e_Mdl_nextSlot_220, ↓e_Mdl_nextSlot_223, ↓e_Mdl_nextSlot_226, ↓e_Mdl_nextSlot_227, ↓e_Mdl_nextSlot_228, ↓e_Mdl_nextSlot_231, ↓e_Mdl_nextSlot_234, ↓e_Mdl_nextSlot_237, ↓e_Mdl_nextSlot_238, ↓e_Mdl_nextSlot_241, ↓e_Mdl_nextSlot_242, ↓e_Mdl_nextSlot_245, ↓e_Mdl_nextSlot_248, ↓e_Mdl_nextSlot_249, ↓e_Mdl_nextSlot_252, ↓e_Mdl_nextSlot_253, ↓e_Mdl_nextSlot_254, ↓e_Mdl_nextSlot_257, ↓e_Mdl_nextSlot_258, ↓e_Mdl_nextSlot_261, ↓e_Mdl_nextSlot_262, ↓e_Mdl_nextSlot_265, ↓e_Mdl_nextSlot_268, ↓e_Mdl_nextSlot_271, ↓e_Mdl_nextSlot_274, ↓e_Mdl_nextSlot_275, ↓e_Mdl_nextSlot_276, ↓e_Mdl_nextSlot_279, ↓e_Mdl_nextSlot_282, ↓e_Mdl_nextSlot_285, not_true_eq_false, not_false_eq_true, one0, true_or, or_true, eq_self, bI_z, bI_nz, bI_o, b_ft, bI_1, bI_0, ↓kC_l, ↓kC_r, Option.toList_some, Option.toList_none, List.cons_append, List.nil_append, s1_0, s1_1i, s1_1r, s1_1w, s1_1n, s1_s, s2_0, s2_1i, s2_1r, s2_1w, s2_1n, s2_s, gI_sI, gI_sR, gI_sL, gI_sD, gR_sI, gR_sR, gR_sL, gR_sD, gL_sI, gL_sR, gL_sL, gL_sD, gD_sI, gD_sR, gD_sL, gD_sD, isK_sI, isK_sR, isK_sL, isK_sD, inL_sI, inL_sR, inL_sL, inL_sD, nx_sI, nx_sR, nx_sL, nx_sD, kd_sI, kd_sR, kd_sL, kd_sD, ln_sI, ln_sR, ln_sL, ln_sD, ↓reduceIte, c8_n, c8_1, c8_2, c8_3, c8_4, Nat.reduceAdd, Rg.k, Rg.r9, Rg.k122, q_nn _ Rg, le_f hn hk, q_ng _ Rg hk, Rg.nk hk, Rg.nz hk, q_msends _ (Rg.nk hk), h1, decide_false, kg, ik, ii_nat (show k < 2147483648 by omega), h2, ii_succ]) n 0 h (by omega) ⟨R, V, Ext.refl τ h, Ag.refl _ h, Ai, hk, hl, hz, rfl, rfl⟩
  refine ⟨g, fun Q => (e1 Q).trans ?_, Rg, Vg, Xg, Gg, Ag9, ng, sg⟩
  rw [e_Mdl_nextSlot_44]
  simp only [↓e_Mdl_nextSlot_0, ↓e_Mdl_nextSlot_1, ↓e_Mdl_nextSlot_2, ↓e_Mdl_nextSlot_5, ↓e_Mdl_nextSlot_6, ↓e_Mdl_nextSlot_7, ↓e_Mdl_nextSlot_10, ↓e_Mdl_nextSlot_12, ↓e_Mdl_nextSlot_14, ↓e_Mdl_nextSlot_15, ↓e_Mdl_nextSlot_16, ↓e_Mdl_nextSlot_18, ↓e_Mdl_nextSlot_19, ↓e_Mdl_nextSlot_22, ↓e_Mdl_nextSlot_25, ↓e_Mdl_nextSlot_28, ↓e_Mdl_nextSlot_29, ↓e_Mdl_nextSlot_30, ↓e_Mdl_nextSlot_31, ↓e_Mdl_nextSlot_32, ↓e_Mdl_nextSlot_35, ↓e_Mdl_nextSlot_36, ↓e_Mdl_nextSlot_39, ↓e_Mdl_nextSlot_42, ↓e_Mdl_nextSlot_43, ↓e_Mdl_nextSlot_45, ↓e_Mdl_nextSlot_46, ↓e_Mdl_nextSlot_49, ↓e_Mdl_nextSlot_52, ↓e_Mdl_nextSlot_55, ↓e_Mdl_nextSlot_56, ↓e_Mdl_nextSlot_59, ↓e_Mdl_nextSlot_60, ↓e_Mdl_nextSlot_63, ↓e_Mdl_nextSlot_66, ↓e_Mdl_nextSlot_69, ↓e_Mdl_nextSlot_72, ↓e_Mdl_nextSlot_73, ↓e_Mdl_nextSlot_74, ↓e_Mdl_nextSlot_75, ↓e_Mdl_nextSlot_78, ↓e_Mdl_nextSlot_79, ↓e_Mdl_nextSlot_82, ↓e_Mdl_nextSlot_83, ↓e_Mdl_nextSlot_86, ↓e_Mdl_nextSlot_89, ↓e_Mdl_nextSlot_92, ↓e_Mdl_nextSlot_95, ↓e_Mdl_nextSlot_98, ↓e_Mdl_nextSlot_99, ↓e_Mdl_nextSlot_100, ↓e_Mdl_nextSlot_103, ↓e_Mdl_nextSlot_104, ↓e_Mdl_nextSlot_107, ↓e_Mdl_nextSlot_110, ↓e_Mdl_nextSlot_113, ↓e_Mdl_nextSlot_116, ↓e_Mdl_nextSlot_120, ↓e_Mdl_nextSlot_123, ↓e_Mdl_nextSlot_124, ↓e_Mdl_nextSlot_125, ↓e_Mdl_nextSlot_127, ↓e_Mdl_nextSlot_128, ↓e_Mdl_nextSlot_131, ↓e_Mdl_nextSlot_134, ↓e_Mdl_nextSlot_137, ↓e_Mdl_nextSlot_138, ↓e_Mdl_nextSlot_139, ↓e_Mdl_nextSlot_142, ↓e_Mdl_nextSlot_145, ↓e_Mdl_nextSlot_148, ↓e_Mdl_nextSlot_149, ↓e_Mdl_nextSlot_152, ↓e_Mdl_nextSlot_153, ↓e_Mdl_nextSlot_156, ↓e_Mdl_nextSlot_159, ↓e_Mdl_nextSlot_160, ↓e_Mdl_nextSlot_163, ↓e_Mdl_nextSlot_164, ↓e_Mdl_nextSlot_165, ↓e_Mdl_nextSlot_168, ↓e_Mdl_nextSlot_169, ↓e_Mdl_nextSlot_172, ↓e_Mdl_nextSlot_173, ↓e_Mdl_nextSlot_176, ↓e_Mdl_nextSlot_179, ↓e_Mdl_nextSlot_180, ↓e_Mdl_nextSlot_183, ↓e_Mdl_nextSlot_184, ↓e_Mdl_nextSlot_185, ↓e_Mdl_nextSlot_188, ↓e_Mdl_nextSlot_189, ↓e_Mdl_nextSlot_192, ↓e_Mdl_nextSlot_195, ↓e_Mdl_nextSlot_198, ↓e_Mdl_nextSlot_199, ↓e_Mdl_nextSlot_200, ↓e_Mdl_nextSlot_203, ↓e_Mdl_nextSlot_204, ↓e_Mdl_nextSlot_207, ↓e_Mdl_nextSlot_210, ↓e_Mdl_nextSlot_213, ↓e_Mdl_nextSlot_214, ↓e_Mdl_nextSlot_216, ↓e_Mdl_nextSlot_217, ↓e_Mdl_nextSlot_220, ↓e_Mdl_nextSlot_223, ↓e_Mdl_nextSlot_226, ↓e_Mdl_nextSlot_227, ↓e_Mdl_nextSlot_228, ↓e_Mdl_nextSlot_231, ↓e_Mdl_nextSlot_234, ↓e_Mdl_nextSlot_237, ↓e_Mdl_nextSlot_238, ↓e_Mdl_nextSlot_241, ↓e_Mdl_nextSlot_242, ↓e_Mdl_nextSlot_245, ↓e_Mdl_nextSlot_248, ↓e_Mdl_nextSlot_249, ↓e_Mdl_nextSlot_252, ↓e_Mdl_nextSlot_253, ↓e_Mdl_nextSlot_254, ↓e_Mdl_nextSlot_257, ↓e_Mdl_nextSlot_258, ↓e_Mdl_nextSlot_261, ↓e_Mdl_nextSlot_262, ↓e_Mdl_nextSlot_265, ↓e_Mdl_nextSlot_268, ↓e_Mdl_nextSlot_271, ↓e_Mdl_nextSlot_274, ↓e_Mdl_nextSlot_275, ↓e_Mdl_nextSlot_276, ↓e_Mdl_nextSlot_279, ↓e_Mdl_nextSlot_282, ↓e_Mdl_nextSlot_285, not_true_eq_false, not_false_eq_true, one0, true_or, or_true, eq_self, bI_z, bI_nz, bI_o, b_ft, bI_1, bI_0, ↓kC_l, ↓kC_r, Option.toList_some, Option.toList_none, List.cons_append, List.nil_append, s1_0, s1_1i, s1_1r, s1_1w, s1_1n, s1_s, s2_0, s2_1i, s2_1r, s2_1w, s2_1n, s2_s, gI_sI, gI_sR, gI_sL, gI_sD, gR_sI, gR_sR, gR_sL, gR_sD, gL_sI, gL_sR, gL_sL, gL_sD, gD_sI, gD_sR, gD_sL, gD_sD, isK_sI, isK_sR, isK_sL, isK_sD, inL_sI, inL_sR, inL_sL, inL_sD, nx_sI, nx_sR, nx_sL, nx_sD, kd_sI, kd_sR, kd_sL, kd_sD, ln_sI, ln_sR, ln_sL, ln_sD, ↓reduceIte, c8_n, c8_1, c8_2, c8_3, c8_4, Nat.reduceAdd, Rg.k, Rg.r9, Rg.k122, q_nn _ Rg, le_t hn]
end RSL
