/-! ploop: loops; the rest of land's questions -/
def upto {α : Type} (f : Nat → α → α) : Nat → Nat → α → α
  | 0, _, a => a
  | m + 1, k, a => upto f m (k + 1) (f k a)
theorem loop0 {α : Type} (P : Nat → α → Prop) (f : Nat → α → α) (n : Nat) (hs : ∀ k a, k < n → P k a = P (k + 1) (f k a)) : ∀ (m k : Nat) (a : α), k + m = n → P k a = P n (upto f m k a)
  | 0, k, a, e => by
    have : k = n := by omega
    subst this
    rfl
  | m + 1, k, a, e => by
    rw [hs k a (by omega)]
    exact loop0 P f n hs m (k + 1) (f k a) (by omega)
theorem loopI {α : Type} (P : Nat → α → Prop) (I : Nat → α → Prop) (f : Nat → α → α) (n : Nat) (hs : ∀ k a, k < n → I k a → P k a = P (k + 1) (f k a) ∧ I (k + 1) (f k a)) : ∀ (m k : Nat) (a : α), k + m = n → I k a → P k a = P n (upto f m k a) ∧ I n (upto f m k a)
  | 0, k, a, e, h => by
    have : k = n := by omega
    subst this
    exact ⟨rfl, h⟩
  | m + 1, k, a, e, h => by
    obtain ⟨h1, h2⟩ := hs k a (by omega) h
    rw [h1]
    exact loopI P I f n hs m (k + 1) (f k a) (by omega) h2
def exUp (c : Nat → Bool) : Nat → Nat → Bool
  | 0, _ => false
  | m + 1, k => c k || exUp c m (k + 1)
theorem loopE (P : Nat → Prop) (c : Nat → Bool) (R : Prop) (n : Nat) (hs : ∀ k, k < n → P k = if c k = true then R else P (k + 1)) : ∀ (m k : Nat), k + m = n → P k = if exUp c m k = true then R else P n
  | 0, k, e => by
    have : k = n := by omega
    subst this
    rfl
  | m + 1, k, e => by
    rw [hs k (by omega), loopE P c R n hs m (k + 1) (by omega)]
    show _ = if (c k || exUp c m (k + 1)) = true then R else P n
    cases c k <;> rfl
theorem loopEg {γ : Type} (P : Nat → γ → Prop) (c : Nat → Bool) (R : Prop) (n : Nat) (hs : ∀ k w, k < n → ∃ w', P k w = if c k = true then R else P (k + 1) w') : ∀ (m k : Nat) (w : γ), k + m = n → ∃ w', P k w = if exUp c m k = true then R else P n w'
  | 0, k, w, e => by
    have : k = n := by omega
    subst this
    exact ⟨w, rfl⟩
  | m + 1, k, w, e => by
    obtain ⟨w1, h1⟩ := hs k w (by omega)
    obtain ⟨w2, h2⟩ := loopEg P c R n hs m (k + 1) w1 (by omega)
    refine ⟨w2, ?_⟩
    rw [h1, h2]
    show _ = if (c k || exUp c m (k + 1)) = true then R else P n w2
    cases c k <;> rfl
theorem loopG {α γ : Type} (P : Nat → α → γ → Prop) (f : Nat → α → α) (n : Nat) (hs : ∀ k a w, k < n → ∃ w', P k a w = P (k + 1) (f k a) w') : ∀ (m k : Nat) (a : α) (w : γ), k + m = n → ∃ w', P k a w = P n (upto f m k a) w'
  | 0, k, a, w, e => by
    have : k = n := by omega
    subst this
    exact ⟨w, rfl⟩
  | m + 1, k, a, w, e => by
    obtain ⟨w1, h1⟩ := hs k a w (by omega)
    rw [h1]
    exact loopG P f n hs m (k + 1) (f k a) w1 (by omega)
theorem loopIG {α γ : Type} (P : Nat → α → γ → Prop) (I : Nat → α → Prop) (f : Nat → α → α) (n : Nat) (hs : ∀ k a w, k < n → I k a → (∃ w', P k a w = P (k + 1) (f k a) w') ∧ I (k + 1) (f k a)) : ∀ (m k : Nat) (a : α) (w : γ), k + m = n → I k a → (∃ w', P k a w = P n (upto f m k a) w') ∧ I n (upto f m k a)
  | 0, k, a, w, e, h => by
    have : k = n := by omega
    subst this
    exact ⟨⟨w, rfl⟩, h⟩
  | m + 1, k, a, w, e, h => by
    obtain ⟨⟨w1, h1⟩, h2⟩ := hs k a w (by omega) h
    rw [h1]
    exact loopIG P I f n hs m (k + 1) (f k a) w1 (by omega) h2
theorem exUp_true {c : Nat → Bool} : ∀ {m k : Nat}, (exUp c m k = true) ↔ ∃ i, k ≤ i ∧ i < k + m ∧ c i = true
  | 0, k => ⟨fun h => absurd h (by simp [exUp]), fun h => by obtain ⟨i, h1, h2, -⟩ := h; omega⟩
  | m + 1, k => by
    show (c k || exUp c m (k + 1)) = true ↔ _
    rw [Bool.or_eq_true, exUp_true]
    constructor
    · rintro (h | ⟨i, h1, h2, h3⟩)
      · exact ⟨k, Nat.le_refl _, by omega, h⟩
      · exact ⟨i, by omega, by omega, h3⟩
    · rintro ⟨i, h1, h2, h3⟩
      by_cases e : i = k
      · exact Or.inl (e ▸ h3)
      · exact Or.inr ⟨i, by omega, by omega, h3⟩
/-- the first place of which c holds -/
def fdUp (c : Nat → Bool) : Nat → Nat → Option Nat
  | 0, _ => none
  | m + 1, k => if c k = true then some k else fdUp c m (k + 1)
theorem loopF (P : Nat → Prop) (c : Nat → Bool) (R : Nat → Prop) (n : Nat) (hs : ∀ k, k < n → P k = if c k = true then R k else P (k + 1)) : ∀ (m k : Nat), k + m = n → P k = (match fdUp c m k with | some i => R i | none => P n)
  | 0, k, e => by
    have : k = n := by omega
    subst this
    rfl
  | m + 1, k, e => by
    rw [hs k (by omega), loopF P c R n hs m (k + 1) (by omega)]
    show _ = (match (if c k = true then some k else fdUp c m (k + 1)) with | some i => R i | none => P n)
    cases c k <;> rfl
theorem fdUp_some {c : Nat → Bool} : ∀ {m k i : Nat}, fdUp c m k = some i → k ≤ i ∧ i < k + m ∧ c i = true
  | 0, k, i, h => by cases h
  | m + 1, k, i, h => by
    unfold fdUp at h
    by_cases e : c k = true
    · rw [if_pos e] at h
      cases h
      exact ⟨Nat.le_refl _, by omega, e⟩
    · rw [if_neg e] at h
      obtain ⟨h1, h2, h3⟩ := fdUp_some h
      exact ⟨by omega, by omega, h3⟩
theorem le_f {n k : Nat} (hn : n ≤ 8) (hk : k < n) : (ii n ≤ ii k) = False := by
  rw [ii_le (by omega) (by omega)]
  simp
  omega
theorem le_t {n : Nat} (hn : n ≤ 8) : (ii n ≤ ii n) = True := by
  rw [ii_le (by omega) (by omega)]
  simp
theorem lt_8 {n k : Nat} (hn : n ≤ 8) (hk : k < n) : k < 8 := by omega
section Q2
variable {n : Nat} {h : Hp} (Q : MRes → Hp → Prop)
theorem q_everyone (S : Str n h) : WP Gm j_Land_everyone 0 [some (.inr (.inl (some 2)))] [] h Q = Q (.inl (some (.inl (ii (2 ^ n - 1))))) h := by
  simp only [↓e_Land_everyone_0, ↓e_Land_everyone_1, ↓e_Land_everyone_2, ↓e_Land_everyone_5, ↓e_Land_everyone_6, ↓e_Land_everyone_7, ↓e_Land_everyone_8, not_true_eq_false, not_false_eq_true, one0, true_or, or_true, eq_self, bI_z, bI_nz, bI_o, b_ft, bI_1, bI_0, ↓kC_l, ↓kC_r, Option.toList_some, Option.toList_none, List.cons_append, List.nil_append, s1_0, s1_1i, s1_1r, s1_1w, s1_1n, s1_s, s2_0, s2_1i, s2_1r, s2_1w, s2_1n, s2_s, gI_sI, gI_sR, gI_sL, gI_sD, gR_sI, gR_sR, gR_sL, gR_sD, gL_sI, gL_sR, gL_sL, gL_sD, gD_sI, gD_sR, gD_sL, gD_sD, isK_sI, isK_sR, isK_sL, isK_sD, inL_sI, inL_sR, inL_sL, inL_sD, nx_sI, nx_sR, nx_sL, nx_sD, kd_sI, kd_sR, kd_sL, kd_sD, ln_sI, ln_sR, ln_sL, ln_sD, ↓reduceIte, c8_n, c8_1, c8_2, c8_3, c8_4, Nat.reduceAdd, k_s S, k_land S, k_nodes S, k_hear S, k_routes S, k_traffic S, k_market S, g_cnt S, r_land S, r_routes S, r_traffic S, r_market S, r_nodes S, r_hear S, r_rland S, r_tland S, r_troutes S]
  have := n8 S
  have e : (1 <<< (ii n &&& 31) - 1 : Int32) = ii (2 ^ n - 1) := by
    have : ∀ n, n ≤ 8 → (1 <<< (ii n &&& 31) - 1 : Int32) = ii (2 ^ n - 1) := by decide
    exact this n (n8 S)
  rw [e]
def bitN (k : Nat) : Int32 := 1 <<< (ii k &&& 31)
def lwF (n : Nat) (h : Hp) (i : Nat) : Int32 := upto (fun k s => if (chF n h i k && chF n h k i) = true then s ||| bitN k else s) n 0 0
theorem q_linkedWith (S : Str n h) {i : Nat} (hi : i < 8) : WP Gm j_Land_linkedWith 0 [some (.inr (.inl (some 2))), some (.inl (ii i)), none, none] [] h Q = Q (.inl (some (.inl (lwF n h i)))) h := by
  have step := loop0 (fun k s => WP Gm j_Land_linkedWith 4 [some (.inr (.inl (some 2))), some (.inl (ii i)), some (.inl s), some (.inl (ii k))] [] h Q) (fun k s => if (chF n h i k && chF n h k i) = true then s ||| bitN k else s) n
    (fun k s hk => by
      have hk8 := lt_8 (n8 S) hk
      rw [e_Land_linkedWith_4]
      simp only [↓e_Land_linkedWith_0, ↓e_Land_linkedWith_1, ↓e_Land_linkedWith_2, ↓e_Land_linkedWith_3, ↓e_Land_linkedWith_5, ↓e_Land_linkedWith_6, ↓e_Land_linkedWith_9, ↓e_Land_linkedWith_12, ↓e_Land_linkedWith_13, ↓e_Land_linkedWith_14, ↓e_Land_linkedWith_15, ↓e_Land_linkedWith_18, ↓e_Land_linkedWith_21, ↓e_Land_linkedWith_22, ↓e_Land_linkedWith_23, ↓e_Land_linkedWith_24, ↓e_Land_linkedWith_25, ↓e_Land_linkedWith_26, ↓e_Land_linkedWith_27, ↓e_Land_linkedWith_30, ↓e_Land_linkedWith_33, ↓e_Land_linkedWith_34, not_true_eq_false, not_false_eq_true, one0, true_or, or_true, eq_self, bI_z, bI_nz, bI_o, b_ft, bI_1, bI_0, ↓kC_l, ↓kC_r, Option.toList_some, Option.toList_none, List.cons_append, List.nil_append, s1_0, s1_1i, s1_1r, s1_1w, s1_1n, s1_s, s2_0, s2_1i, s2_1r, s2_1w, s2_1n, s2_s, gI_sI, gI_sR, gI_sL, gI_sD, gR_sI, gR_sR, gR_sL, gR_sD, gL_sI, gL_sR, gL_sL, gL_sD, gD_sI, gD_sR, gD_sL, gD_sD, isK_sI, isK_sR, isK_sL, isK_sD, inL_sI, inL_sR, inL_sL, inL_sD, nx_sI, nx_sR, nx_sL, nx_sD, kd_sI, kd_sR, kd_sL, kd_sD, ln_sI, ln_sR, ln_sL, ln_sD, ↓reduceIte, c8_n, c8_1, c8_2, c8_3, c8_4, Nat.reduceAdd, k_s S, k_land S, k_nodes S, k_hear S, k_routes S, k_traffic S, k_market S, g_cnt S, r_land S, r_routes S, r_traffic S, r_market S, r_nodes S, r_hear S, r_rland S, r_tland S, r_troutes S, le_f (n8 S) hk, q_areLinked _ S hi hk8, ii_succ]
      cases chF n h i k && chF n h k i <;> rfl) n 0 0 (by omega)
  simp only [↓e_Land_linkedWith_0, ↓e_Land_linkedWith_1, ↓e_Land_linkedWith_2, ↓e_Land_linkedWith_3, ↓e_Land_linkedWith_5, ↓e_Land_linkedWith_6, ↓e_Land_linkedWith_9, ↓e_Land_linkedWith_12, ↓e_Land_linkedWith_13, ↓e_Land_linkedWith_14, ↓e_Land_linkedWith_15, ↓e_Land_linkedWith_18, ↓e_Land_linkedWith_21, ↓e_Land_linkedWith_22, ↓e_Land_linkedWith_23, ↓e_Land_linkedWith_24, ↓e_Land_linkedWith_25, ↓e_Land_linkedWith_26, ↓e_Land_linkedWith_27, ↓e_Land_linkedWith_30, ↓e_Land_linkedWith_33, ↓e_Land_linkedWith_34, not_true_eq_false, not_false_eq_true, one0, true_or, or_true, eq_self, bI_z, bI_nz, bI_o, b_ft, bI_1, bI_0, ↓kC_l, ↓kC_r, Option.toList_some, Option.toList_none, List.cons_append, List.nil_append, s1_0, s1_1i, s1_1r, s1_1w, s1_1n, s1_s, s2_0, s2_1i, s2_1r, s2_1w, s2_1n, s2_s, gI_sI, gI_sR, gI_sL, gI_sD, gR_sI, gR_sR, gR_sL, gR_sD, gL_sI, gL_sR, gL_sL, gL_sD, gD_sI, gD_sR, gD_sL, gD_sD, isK_sI, isK_sR, isK_sL, isK_sD, inL_sI, inL_sR, inL_sL, inL_sD, nx_sI, nx_sR, nx_sL, nx_sD, kd_sI, kd_sR, kd_sL, kd_sD, ln_sI, ln_sR, ln_sL, ln_sD, ↓reduceIte, c8_n, c8_1, c8_2, c8_3, c8_4, Nat.reduceAdd]
  refine step.trans ?_
  rw [e_Land_linkedWith_4]
  simp only [↓e_Land_linkedWith_0, ↓e_Land_linkedWith_1, ↓e_Land_linkedWith_2, ↓e_Land_linkedWith_3, ↓e_Land_linkedWith_5, ↓e_Land_linkedWith_6, ↓e_Land_linkedWith_9, ↓e_Land_linkedWith_12, ↓e_Land_linkedWith_13, ↓e_Land_linkedWith_14, ↓e_Land_linkedWith_15, ↓e_Land_linkedWith_18, ↓e_Land_linkedWith_21, ↓e_Land_linkedWith_22, ↓e_Land_linkedWith_23, ↓e_Land_linkedWith_24, ↓e_Land_linkedWith_25, ↓e_Land_linkedWith_26, ↓e_Land_linkedWith_27, ↓e_Land_linkedWith_30, ↓e_Land_linkedWith_33, ↓e_Land_linkedWith_34, not_true_eq_false, not_false_eq_true, one0, true_or, or_true, eq_self, bI_z, bI_nz, bI_o, b_ft, bI_1, bI_0, ↓kC_l, ↓kC_r, Option.toList_some, Option.toList_none, List.cons_append, List.nil_append, s1_0, s1_1i, s1_1r, s1_1w, s1_1n, s1_s, s2_0, s2_1i, s2_1r, s2_1w, s2_1n, s2_s, gI_sI, gI_sR, gI_sL, gI_sD, gR_sI, gR_sR, gR_sL, gR_sD, gL_sI, gL_sR, gL_sL, gL_sD, gD_sI, gD_sR, gD_sL, gD_sD, isK_sI, isK_sR, isK_sL, isK_sD, inL_sI, inL_sR, inL_sL, inL_sD, nx_sI, nx_sR, nx_sL, nx_sD, kd_sI, kd_sR, kd_sL, kd_sD, ln_sI, ln_sR, ln_sL, ln_sD, ↓reduceIte, c8_n, c8_1, c8_2, c8_3, c8_4, Nat.reduceAdd, k_s S, k_land S, k_nodes S, k_hear S, k_routes S, k_traffic S, k_market S, g_cnt S, r_land S, r_routes S, r_traffic S, r_market S, r_nodes S, r_hear S, r_rland S, r_tland S, r_troutes S, le_t (n8 S)]
  rfl
def hoF (n : Nat) (h : Hp) (i : Nat) (s : Int32) : Bool := exUp (fun k => tb s k && chF n h i k) n 0
theorem q_hearsOneOf (S : Str n h) {i : Nat} (hi : i < 8) (s : Int32) : WP Gm j_Land_hearsOneOf 0 [some (.inr (.inl (some 2))), some (.inl (ii i)), some (.inl s), none] [] h Q = Q (.inl (some (.inl (bI (hoF n h i s))))) h := by
  have step := loopE (fun k => WP Gm j_Land_hearsOneOf 2 [some (.inr (.inl (some 2))), some (.inl (ii i)), some (.inl s), some (.inl (ii k))] [] h Q) (fun k => tb s k && chF n h i k) (Q (.inl (some (.inl (bI true)))) h) n
    (fun k hk => by
      have hk8 := lt_8 (n8 S) hk
      rw [e_Land_hearsOneOf_2]
      simp only [↓e_Land_hearsOneOf_0, ↓e_Land_hearsOneOf_1, ↓e_Land_hearsOneOf_3, ↓e_Land_hearsOneOf_4, ↓e_Land_hearsOneOf_7, ↓e_Land_hearsOneOf_10, ↓e_Land_hearsOneOf_11, ↓e_Land_hearsOneOf_12, ↓e_Land_hearsOneOf_15, ↓e_Land_hearsOneOf_18, ↓e_Land_hearsOneOf_19, ↓e_Land_hearsOneOf_20, ↓e_Land_hearsOneOf_21, ↓e_Land_hearsOneOf_24, ↓e_Land_hearsOneOf_27, ↓e_Land_hearsOneOf_28, ↓e_Land_hearsOneOf_29, ↓e_Land_hearsOneOf_32, ↓e_Land_hearsOneOf_35, ↓e_Land_hearsOneOf_36, not_true_eq_false, not_false_eq_true, one0, true_or, or_true, eq_self, bI_z, bI_nz, bI_o, b_ft, bI_1, bI_0, ↓kC_l, ↓kC_r, Option.toList_some, Option.toList_none, List.cons_append, List.nil_append, s1_0, s1_1i, s1_1r, s1_1w, s1_1n, s1_s, s2_0, s2_1i, s2_1r, s2_1w, s2_1n, s2_s, gI_sI, gI_sR, gI_sL, gI_sD, gR_sI, gR_sR, gR_sL, gR_sD, gL_sI, gL_sR, gL_sL, gL_sD, gD_sI, gD_sR, gD_sL, gD_sD, isK_sI, isK_sR, isK_sL, isK_sD, inL_sI, inL_sR, inL_sL, inL_sD, nx_sI, nx_sR, nx_sL, nx_sD, kd_sI, kd_sR, kd_sL, kd_sD, ln_sI, ln_sR, ln_sL, ln_sD, ↓reduceIte, c8_n, c8_1, c8_2, c8_3, c8_4, Nat.reduceAdd, k_s S, k_land S, k_nodes S, k_hear S, k_routes S, k_traffic S, k_market S, g_cnt S, r_land S, r_routes S, r_traffic S, r_market S, r_nodes S, r_hear S, r_rland S, r_tland S, r_troutes S, le_f (n8 S) hk, q_isIn, q_canHear _ S hi hk8, ii_succ]
      cases tb s k <;> cases chF n h i k <;> rfl) n 0 (by omega)
  simp only [↓e_Land_hearsOneOf_0, ↓e_Land_hearsOneOf_1, ↓e_Land_hearsOneOf_3, ↓e_Land_hearsOneOf_4, ↓e_Land_hearsOneOf_7, ↓e_Land_hearsOneOf_10, ↓e_Land_hearsOneOf_11, ↓e_Land_hearsOneOf_12, ↓e_Land_hearsOneOf_15, ↓e_Land_hearsOneOf_18, ↓e_Land_hearsOneOf_19, ↓e_Land_hearsOneOf_20, ↓e_Land_hearsOneOf_21, ↓e_Land_hearsOneOf_24, ↓e_Land_hearsOneOf_27, ↓e_Land_hearsOneOf_28, ↓e_Land_hearsOneOf_29, ↓e_Land_hearsOneOf_32, ↓e_Land_hearsOneOf_35, ↓e_Land_hearsOneOf_36, not_true_eq_false, not_false_eq_true, one0, true_or, or_true, eq_self, bI_z, bI_nz, bI_o, b_ft, bI_1, bI_0, ↓kC_l, ↓kC_r, Option.toList_some, Option.toList_none, List.cons_append, List.nil_append, s1_0, s1_1i, s1_1r, s1_1w, s1_1n, s1_s, s2_0, s2_1i, s2_1r, s2_1w, s2_1n, s2_s, gI_sI, gI_sR, gI_sL, gI_sD, gR_sI, gR_sR, gR_sL, gR_sD, gL_sI, gL_sR, gL_sL, gL_sD, gD_sI, gD_sR, gD_sL, gD_sD, isK_sI, isK_sR, isK_sL, isK_sD, inL_sI, inL_sR, inL_sL, inL_sD, nx_sI, nx_sR, nx_sL, nx_sD, kd_sI, kd_sR, kd_sL, kd_sD, ln_sI, ln_sR, ln_sL, ln_sD, ↓reduceIte, c8_n, c8_1, c8_2, c8_3, c8_4, Nat.reduceAdd]
  refine step.trans ?_
  rw [e_Land_hearsOneOf_2]
  simp only [↓e_Land_hearsOneOf_0, ↓e_Land_hearsOneOf_1, ↓e_Land_hearsOneOf_3, ↓e_Land_hearsOneOf_4, ↓e_Land_hearsOneOf_7, ↓e_Land_hearsOneOf_10, ↓e_Land_hearsOneOf_11, ↓e_Land_hearsOneOf_12, ↓e_Land_hearsOneOf_15, ↓e_Land_hearsOneOf_18, ↓e_Land_hearsOneOf_19, ↓e_Land_hearsOneOf_20, ↓e_Land_hearsOneOf_21, ↓e_Land_hearsOneOf_24, ↓e_Land_hearsOneOf_27, ↓e_Land_hearsOneOf_28, ↓e_Land_hearsOneOf_29, ↓e_Land_hearsOneOf_32, ↓e_Land_hearsOneOf_35, ↓e_Land_hearsOneOf_36, not_true_eq_false, not_false_eq_true, one0, true_or, or_true, eq_self, bI_z, bI_nz, bI_o, b_ft, bI_1, bI_0, ↓kC_l, ↓kC_r, Option.toList_some, Option.toList_none, List.cons_append, List.nil_append, s1_0, s1_1i, s1_1r, s1_1w, s1_1n, s1_s, s2_0, s2_1i, s2_1r, s2_1w, s2_1n, s2_s, gI_sI, gI_sR, gI_sL, gI_sD, gR_sI, gR_sR, gR_sL, gR_sD, gL_sI, gL_sR, gL_sL, gL_sD, gD_sI, gD_sR, gD_sL, gD_sD, isK_sI, isK_sR, isK_sL, isK_sD, inL_sI, inL_sR, inL_sL, inL_sD, nx_sI, nx_sR, nx_sL, nx_sD, kd_sI, kd_sR, kd_sL, kd_sD, ln_sI, ln_sR, ln_sL, ln_sD, ↓reduceIte, c8_n, c8_1, c8_2, c8_3, c8_4, Nat.reduceAdd, k_s S, k_land S, k_nodes S, k_hear S, k_routes S, k_traffic S, k_market S, g_cnt S, r_land S, r_routes S, r_traffic S, r_market S, r_nodes S, r_hear S, r_rland S, r_tland S, r_troutes S, le_t (n8 S)]
  unfold hoF
  cases exUp (fun k => tb s k && chF n h i k) n 0 <;> rfl
def gtB (n : Nat) (h : Hp) (i j : Nat) (s : Int32) (k : Nat) : Bool := (!decide (k = j) && (tb s k && chF n h i k)) && decide (farF h k i < 4 * farF h j i)
def gtF (n : Nat) (h : Hp) (i j : Nat) (s : Int32) : Bool := !tb s i && (chF n h i j && !exUp (gtB n h i j s) n 0)
theorem q_gets (S : Str n h) {i j : Nat} (hi : i < 8) (hj : j < 8) (s : Int32) : WP Gm j_Land_gets 0 [some (.inr (.inl (some 2))), some (.inl (ii i)), some (.inl (ii j)), some (.inl s), none, none, none] [] h Q = Q (.inl (some (.inl (bI (gtF n h i j s))))) h := by
  obtain ⟨w, step⟩ := loopEg (fun k w => WP Gm j_Land_gets 32 [some (.inr (.inl (some 2))), some (.inl (ii i)), some (.inl (ii j)), some (.inl s), some (.inl (4 * farF h j i)), some (.inl (ii k)), w] [] h Q) (gtB n h i j s) (Q (.inl (some (.inl (bI false)))) h) n
    (fun k w hk => by
      have hk8 := lt_8 (n8 S) hk
      rw [e_Land_gets_32]
      simp only [↓e_Land_gets_0, ↓e_Land_gets_1, ↓e_Land_gets_2, ↓e_Land_gets_5, ↓e_Land_gets_8, ↓e_Land_gets_9, ↓e_Land_gets_10, ↓e_Land_gets_11, ↓e_Land_gets_14, ↓e_Land_gets_17, ↓e_Land_gets_18, ↓e_Land_gets_19, ↓e_Land_gets_20, ↓e_Land_gets_21, ↓e_Land_gets_22, ↓e_Land_gets_23, ↓e_Land_gets_26, ↓e_Land_gets_27, ↓e_Land_gets_29, ↓e_Land_gets_30, ↓e_Land_gets_34, ↓e_Land_gets_35, ↓e_Land_gets_38, ↓e_Land_gets_41, ↓e_Land_gets_43, ↓e_Land_gets_44, ↓e_Land_gets_47, ↓e_Land_gets_48, ↓e_Land_gets_50, ↓e_Land_gets_53, ↓e_Land_gets_56, ↓e_Land_gets_57, ↓e_Land_gets_58, ↓e_Land_gets_60, ↓e_Land_gets_63, ↓e_Land_gets_66, ↓e_Land_gets_67, ↓e_Land_gets_70, ↓e_Land_gets_71, ↓e_Land_gets_73, ↓e_Land_gets_75, ↓e_Land_gets_78, ↓e_Land_gets_80, ↓e_Land_gets_81, ↓e_Land_gets_83, ↓e_Land_gets_84, ↓e_Land_gets_87, ↓e_Land_gets_90, ↓e_Land_gets_91, ↓e_Land_gets_92, ↓e_Land_gets_95, ↓e_Land_gets_98, ↓e_Land_gets_99, not_true_eq_false, not_false_eq_true, one0, true_or, or_true, eq_self, bI_z, bI_nz, bI_o, b_ft, bI_1, bI_0, ↓kC_l, ↓kC_r, Option.toList_some, Option.toList_none, List.cons_append, List.nil_append, s1_0, s1_1i, s1_1r, s1_1w, s1_1n, s1_s, s2_0, s2_1i, s2_1r, s2_1w, s2_1n, s2_s, gI_sI, gI_sR, gI_sL, gI_sD, gR_sI, gR_sR, gR_sL, gR_sD, gL_sI, gL_sR, gL_sL, gL_sD, gD_sI, gD_sR, gD_sL, gD_sD, isK_sI, isK_sR, isK_sL, isK_sD, inL_sI, inL_sR, inL_sL, inL_sD, nx_sI, nx_sR, nx_sL, nx_sD, kd_sI, kd_sR, kd_sL, kd_sD, ln_sI, ln_sR, ln_sL, ln_sD, ↓reduceIte, c8_n, c8_1, c8_2, c8_3, c8_4, Nat.reduceAdd, k_s S, k_land S, k_nodes S, k_hear S, k_routes S, k_traffic S, k_market S, g_cnt S, r_land S, r_routes S, r_traffic S, r_market S, r_nodes S, r_hear S, r_rland S, r_tland S, r_troutes S, le_f (n8 S) hk, q_isIn, q_canHear _ S hi hk8, q_far _ S hk8 hi, ii_succ, ii_inj (lt31 hk8) (lt31 hj)]
      refine ⟨some (.inl (bI (!decide (k = j) && (tb s k && chF n h i k)))), ?_⟩
      unfold gtB
      by_cases hkj : k = j
      · rw [if_pos hkj, decide_eq_true hkj]; rfl
      · rw [if_neg hkj, decide_eq_false hkj]
        cases tb s k
        · rfl
        · cases chF n h i k
          · rfl
          · by_cases hf : 4 * farF h j i ≤ farF h k i
            · rw [if_pos hf, decide_eq_false (Int32.not_lt.mpr hf)]; rfl
            · rw [if_neg hf, decide_eq_true (Int32.not_le.mp hf)]; rfl) n 0 none (by omega)
  simp only [↓e_Land_gets_0, ↓e_Land_gets_1, ↓e_Land_gets_2, ↓e_Land_gets_5, ↓e_Land_gets_8, ↓e_Land_gets_9, ↓e_Land_gets_10, ↓e_Land_gets_11, ↓e_Land_gets_14, ↓e_Land_gets_17, ↓e_Land_gets_18, ↓e_Land_gets_19, ↓e_Land_gets_20, ↓e_Land_gets_21, ↓e_Land_gets_22, ↓e_Land_gets_23, ↓e_Land_gets_26, ↓e_Land_gets_27, ↓e_Land_gets_29, ↓e_Land_gets_30, ↓e_Land_gets_34, ↓e_Land_gets_35, ↓e_Land_gets_38, ↓e_Land_gets_41, ↓e_Land_gets_43, ↓e_Land_gets_44, ↓e_Land_gets_47, ↓e_Land_gets_48, ↓e_Land_gets_50, ↓e_Land_gets_53, ↓e_Land_gets_56, ↓e_Land_gets_57, ↓e_Land_gets_58, ↓e_Land_gets_60, ↓e_Land_gets_63, ↓e_Land_gets_66, ↓e_Land_gets_67, ↓e_Land_gets_70, ↓e_Land_gets_71, ↓e_Land_gets_73, ↓e_Land_gets_75, ↓e_Land_gets_78, ↓e_Land_gets_80, ↓e_Land_gets_81, ↓e_Land_gets_83, ↓e_Land_gets_84, ↓e_Land_gets_87, ↓e_Land_gets_90, ↓e_Land_gets_91, ↓e_Land_gets_92, ↓e_Land_gets_95, ↓e_Land_gets_98, ↓e_Land_gets_99, not_true_eq_false, not_false_eq_true, one0, true_or, or_true, eq_self, bI_z, bI_nz, bI_o, b_ft, bI_1, bI_0, ↓kC_l, ↓kC_r, Option.toList_some, Option.toList_none, List.cons_append, List.nil_append, s1_0, s1_1i, s1_1r, s1_1w, s1_1n, s1_s, s2_0, s2_1i, s2_1r, s2_1w, s2_1n, s2_s, gI_sI, gI_sR, gI_sL, gI_sD, gR_sI, gR_sR, gR_sL, gR_sD, gL_sI, gL_sR, gL_sL, gL_sD, gD_sI, gD_sR, gD_sL, gD_sD, isK_sI, isK_sR, isK_sL, isK_sD, inL_sI, inL_sR, inL_sL, inL_sD, nx_sI, nx_sR, nx_sL, nx_sD, kd_sI, kd_sR, kd_sL, kd_sD, ln_sI, ln_sR, ln_sL, ln_sD, ↓reduceIte, c8_n, c8_1, c8_2, c8_3, c8_4, Nat.reduceAdd, k_s S, k_land S, k_nodes S, k_hear S, k_routes S, k_traffic S, k_market S, g_cnt S, r_land S, r_routes S, r_traffic S, r_market S, r_nodes S, r_hear S, r_rland S, r_tland S, r_troutes S, q_isIn, q_canHear _ S hi hj, q_far _ S hj hi]
  unfold gtF
  cases tb s i
  · cases chF n h i j
    · rfl
    · refine Eq.trans ?_ (step.trans ?_)
      · rfl
      · rw [e_Land_gets_32]
        simp only [↓e_Land_gets_0, ↓e_Land_gets_1, ↓e_Land_gets_2, ↓e_Land_gets_5, ↓e_Land_gets_8, ↓e_Land_gets_9, ↓e_Land_gets_10, ↓e_Land_gets_11, ↓e_Land_gets_14, ↓e_Land_gets_17, ↓e_Land_gets_18, ↓e_Land_gets_19, ↓e_Land_gets_20, ↓e_Land_gets_21, ↓e_Land_gets_22, ↓e_Land_gets_23, ↓e_Land_gets_26, ↓e_Land_gets_27, ↓e_Land_gets_29, ↓e_Land_gets_30, ↓e_Land_gets_34, ↓e_Land_gets_35, ↓e_Land_gets_38, ↓e_Land_gets_41, ↓e_Land_gets_43, ↓e_Land_gets_44, ↓e_Land_gets_47, ↓e_Land_gets_48, ↓e_Land_gets_50, ↓e_Land_gets_53, ↓e_Land_gets_56, ↓e_Land_gets_57, ↓e_Land_gets_58, ↓e_Land_gets_60, ↓e_Land_gets_63, ↓e_Land_gets_66, ↓e_Land_gets_67, ↓e_Land_gets_70, ↓e_Land_gets_71, ↓e_Land_gets_73, ↓e_Land_gets_75, ↓e_Land_gets_78, ↓e_Land_gets_80, ↓e_Land_gets_81, ↓e_Land_gets_83, ↓e_Land_gets_84, ↓e_Land_gets_87, ↓e_Land_gets_90, ↓e_Land_gets_91, ↓e_Land_gets_92, ↓e_Land_gets_95, ↓e_Land_gets_98, ↓e_Land_gets_99, not_true_eq_false, not_false_eq_true, one0, true_or, or_true, eq_self, bI_z, bI_nz, bI_o, b_ft, bI_1, bI_0, ↓kC_l, ↓kC_r, Option.toList_some, Option.toList_none, List.cons_append, List.nil_append, s1_0, s1_1i, s1_1r, s1_1w, s1_1n, s1_s, s2_0, s2_1i, s2_1r, s2_1w, s2_1n, s2_s, gI_sI, gI_sR, gI_sL, gI_sD, gR_sI, gR_sR, gR_sL, gR_sD, gL_sI, gL_sR, gL_sL, gL_sD, gD_sI, gD_sR, gD_sL, gD_sD, isK_sI, isK_sR, isK_sL, isK_sD, inL_sI, inL_sR, inL_sL, inL_sD, nx_sI, nx_sR, nx_sL, nx_sD, kd_sI, kd_sR, kd_sL, kd_sD, ln_sI, ln_sR, ln_sL, ln_sD, ↓reduceIte, c8_n, c8_1, c8_2, c8_3, c8_4, Nat.reduceAdd, k_s S, k_land S, k_nodes S, k_hear S, k_routes S, k_traffic S, k_market S, g_cnt S, r_land S, r_routes S, r_traffic S, r_market S, r_nodes S, r_hear S, r_rland S, r_tland S, r_troutes S, le_t (n8 S)]
        cases exUp (gtB n h i j s) n 0 <;> rfl
  · rfl
theorem q_framesInQueues (S : Str n h) : ∃ v, ∀ Q, WP Gm j_Land_framesInQueues 0 [some (.inr (.inl (some 2))), none, none] [] h Q = Q (.inl (some (.inl v))) h := by
  refine ⟨upto (fun k s => s + gI h (6 + 9 * k) 1) n 0 0, fun Q => ?_⟩
  have step := loop0 (fun k s => WP Gm j_Land_framesInQueues 4 [some (.inr (.inl (some 2))), some (.inl s), some (.inl (ii k))] [] h Q) (fun k s => s + gI h (6 + 9 * k) 1) n
    (fun k s hk => by
      have hk8 := lt_8 (n8 S) hk
      rw [e_Land_framesInQueues_4]
      simp only [↓e_Land_framesInQueues_0, ↓e_Land_framesInQueues_1, ↓e_Land_framesInQueues_2, ↓e_Land_framesInQueues_3, ↓e_Land_framesInQueues_5, ↓e_Land_framesInQueues_6, ↓e_Land_framesInQueues_9, ↓e_Land_framesInQueues_12, ↓e_Land_framesInQueues_13, ↓e_Land_framesInQueues_14, ↓e_Land_framesInQueues_17, ↓e_Land_framesInQueues_18, ↓e_Land_framesInQueues_19, ↓e_Land_framesInQueues_22, ↓e_Land_framesInQueues_25, ↓e_Land_framesInQueues_26, ↓e_Land_framesInQueues_27, ↓e_Land_framesInQueues_30, ↓e_Land_framesInQueues_33, ↓e_Land_framesInQueues_34, not_true_eq_false, not_false_eq_true, one0, true_or, or_true, eq_self, bI_z, bI_nz, bI_o, b_ft, bI_1, bI_0, ↓kC_l, ↓kC_r, Option.toList_some, Option.toList_none, List.cons_append, List.nil_append, s1_0, s1_1i, s1_1r, s1_1w, s1_1n, s1_s, s2_0, s2_1i, s2_1r, s2_1w, s2_1n, s2_s, gI_sI, gI_sR, gI_sL, gI_sD, gR_sI, gR_sR, gR_sL, gR_sD, gL_sI, gL_sR, gL_sL, gL_sD, gD_sI, gD_sR, gD_sL, gD_sD, isK_sI, isK_sR, isK_sL, isK_sD, inL_sI, inL_sR, inL_sL, inL_sD, nx_sI, nx_sR, nx_sL, nx_sD, kd_sI, kd_sR, kd_sL, kd_sD, ln_sI, ln_sR, ln_sL, ln_sD, ↓reduceIte, c8_n, c8_1, c8_2, c8_3, c8_4, Nat.reduceAdd, k_s S, k_land S, k_nodes S, k_hear S, k_routes S, k_traffic S, k_market S, g_cnt S, r_land S, r_routes S, r_traffic S, r_market S, r_nodes S, r_hear S, r_rland S, r_tland S, r_troutes S, l_nodes S hk8, l_hear S hk8, r_node S hk8, r_queue S hk8, r_set S hk8, r_frames S hk8, r_bits S hk8, k_node S hk8, k_queue S hk8, k_frames S hk8, k_set S hk8, k_bits S hk8, ii_nat (lt31 hk8), le_f (n8 S) hk, ii_succ]) n 0 0 (by omega)
  simp only [↓e_Land_framesInQueues_0, ↓e_Land_framesInQueues_1, ↓e_Land_framesInQueues_2, ↓e_Land_framesInQueues_3, ↓e_Land_framesInQueues_5, ↓e_Land_framesInQueues_6, ↓e_Land_framesInQueues_9, ↓e_Land_framesInQueues_12, ↓e_Land_framesInQueues_13, ↓e_Land_framesInQueues_14, ↓e_Land_framesInQueues_17, ↓e_Land_framesInQueues_18, ↓e_Land_framesInQueues_19, ↓e_Land_framesInQueues_22, ↓e_Land_framesInQueues_25, ↓e_Land_framesInQueues_26, ↓e_Land_framesInQueues_27, ↓e_Land_framesInQueues_30, ↓e_Land_framesInQueues_33, ↓e_Land_framesInQueues_34, not_true_eq_false, not_false_eq_true, one0, true_or, or_true, eq_self, bI_z, bI_nz, bI_o, b_ft, bI_1, bI_0, ↓kC_l, ↓kC_r, Option.toList_some, Option.toList_none, List.cons_append, List.nil_append, s1_0, s1_1i, s1_1r, s1_1w, s1_1n, s1_s, s2_0, s2_1i, s2_1r, s2_1w, s2_1n, s2_s, gI_sI, gI_sR, gI_sL, gI_sD, gR_sI, gR_sR, gR_sL, gR_sD, gL_sI, gL_sR, gL_sL, gL_sD, gD_sI, gD_sR, gD_sL, gD_sD, isK_sI, isK_sR, isK_sL, isK_sD, inL_sI, inL_sR, inL_sL, inL_sD, nx_sI, nx_sR, nx_sL, nx_sD, kd_sI, kd_sR, kd_sL, kd_sD, ln_sI, ln_sR, ln_sL, ln_sD, ↓reduceIte, c8_n, c8_1, c8_2, c8_3, c8_4, Nat.reduceAdd]
  refine step.trans ?_
  rw [e_Land_framesInQueues_4]
  simp only [↓e_Land_framesInQueues_0, ↓e_Land_framesInQueues_1, ↓e_Land_framesInQueues_2, ↓e_Land_framesInQueues_3, ↓e_Land_framesInQueues_5, ↓e_Land_framesInQueues_6, ↓e_Land_framesInQueues_9, ↓e_Land_framesInQueues_12, ↓e_Land_framesInQueues_13, ↓e_Land_framesInQueues_14, ↓e_Land_framesInQueues_17, ↓e_Land_framesInQueues_18, ↓e_Land_framesInQueues_19, ↓e_Land_framesInQueues_22, ↓e_Land_framesInQueues_25, ↓e_Land_framesInQueues_26, ↓e_Land_framesInQueues_27, ↓e_Land_framesInQueues_30, ↓e_Land_framesInQueues_33, ↓e_Land_framesInQueues_34, not_true_eq_false, not_false_eq_true, one0, true_or, or_true, eq_self, bI_z, bI_nz, bI_o, b_ft, bI_1, bI_0, ↓kC_l, ↓kC_r, Option.toList_some, Option.toList_none, List.cons_append, List.nil_append, s1_0, s1_1i, s1_1r, s1_1w, s1_1n, s1_s, s2_0, s2_1i, s2_1r, s2_1w, s2_1n, s2_s, gI_sI, gI_sR, gI_sL, gI_sD, gR_sI, gR_sR, gR_sL, gR_sD, gL_sI, gL_sR, gL_sL, gL_sD, gD_sI, gD_sR, gD_sL, gD_sD, isK_sI, isK_sR, isK_sL, isK_sD, inL_sI, inL_sR, inL_sL, inL_sD, nx_sI, nx_sR, nx_sL, nx_sD, kd_sI, kd_sR, kd_sL, kd_sD, ln_sI, ln_sR, ln_sL, ln_sD, ↓reduceIte, c8_n, c8_1, c8_2, c8_3, c8_4, Nat.reduceAdd, k_s S, k_land S, k_nodes S, k_hear S, k_routes S, k_traffic S, k_market S, g_cnt S, r_land S, r_routes S, r_traffic S, r_market S, r_nodes S, r_hear S, r_rland S, r_tland S, r_troutes S, le_t (n8 S)]
def suF (h : Hp) (i : Nat) (k : Nat) (a : Int64 × Int64) : Int64 × Int64 := if k = i then a else (a.1 + (gI h (5 + 9 * k) 12).toInt64, a.2 + (gI h (5 + 9 * k) 13).toInt64)
theorem q_isSuspect (S : Str n h) {i : Nat} (hi : i < 8) : ∃ b : Bool, ∀ Q, WP Gm j_Land_isSuspect 0 [some (.inr (.inl (some 2))), some (.inl (ii i)), none, none, none, none, none, none, none, none, none] [] h Q = Q (.inl (some (.inl (bI b)))) h := by
  refine ⟨!decide (lg_cmp (gI h (5 + 9 * i) 13).toInt64 3 < 0) && !decide (0 ≤ lg_cmp (4 * (gI h (5 + 9 * i) 12).toInt64 * (upto (suF h i) n 0 (0, 0)).2) ((upto (suF h i) n 0 (0, 0)).1 * (gI h (5 + 9 * i) 13).toInt64)), fun Q => ?_⟩
  have step := loop0 (fun k (a : Int64 × Int64) => WP Gm j_Land_isSuspect 32 [some (.inr (.inl (some 2))), some (.inl (ii i)), some (.inr (.inr (.inl (gI h (5 + 9 * i) 12).toInt64))), none, some (.inr (.inr (.inl (gI h (5 + 9 * i) 13).toInt64))), none, some (.inr (.inr (.inl a.1))), none, some (.inr (.inr (.inl a.2))), none, some (.inl (ii k))] [] h Q) (suF h i) n
    (fun k s hk => by
      have hk8 := lt_8 (n8 S) hk
      rw [e_Land_isSuspect_32]
      unfold suF
      simp only [↓e_Land_isSuspect_0, ↓e_Land_isSuspect_1, ↓e_Land_isSuspect_4, ↓e_Land_isSuspect_5, ↓e_Land_isSuspect_6, ↓e_Land_isSuspect_9, ↓e_Land_isSuspect_10, ↓e_Land_isSuspect_11, ↓e_Land_isSuspect_12, ↓e_Land_isSuspect_15, ↓e_Land_isSuspect_16, ↓e_Land_isSuspect_17, ↓e_Land_isSuspect_20, ↓e_Land_isSuspect_21, ↓e_Land_isSuspect_23, ↓e_Land_isSuspect_24, ↓e_Land_isSuspect_26, ↓e_Land_isSuspect_27, ↓e_Land_isSuspect_29, ↓e_Land_isSuspect_30, ↓e_Land_isSuspect_34, ↓e_Land_isSuspect_35, ↓e_Land_isSuspect_38, ↓e_Land_isSuspect_41, ↓e_Land_isSuspect_43, ↓e_Land_isSuspect_44, ↓e_Land_isSuspect_47, ↓e_Land_isSuspect_49, ↓e_Land_isSuspect_50, ↓e_Land_isSuspect_53, ↓e_Land_isSuspect_55, ↓e_Land_isSuspect_56, ↓e_Land_isSuspect_59, ↓e_Land_isSuspect_60, ↓e_Land_isSuspect_61, ↓e_Land_isSuspect_63, ↓e_Land_isSuspect_65, ↓e_Land_isSuspect_66, ↓e_Land_isSuspect_69, ↓e_Land_isSuspect_71, ↓e_Land_isSuspect_72, ↓e_Land_isSuspect_75, ↓e_Land_isSuspect_76, ↓e_Land_isSuspect_77, ↓e_Land_isSuspect_79, ↓e_Land_isSuspect_82, ↓e_Land_isSuspect_85, ↓e_Land_isSuspect_87, ↓e_Land_isSuspect_90, ↓e_Land_isSuspect_91, ↓e_Land_isSuspect_94, ↓e_Land_isSuspect_97, ↓e_Land_isSuspect_98, ↓e_Land_isSuspect_99, ↓e_Land_isSuspect_101, ↓e_Land_isSuspect_102, ↓e_Land_isSuspect_104, ↓e_Land_isSuspect_106, ↓e_Land_isSuspect_107, ↓e_Land_isSuspect_108, ↓e_Land_isSuspect_111, ↓e_Land_isSuspect_112, ↓e_Land_isSuspect_115, ↓e_Land_isSuspect_116, not_true_eq_false, not_false_eq_true, one0, true_or, or_true, eq_self, bI_z, bI_nz, bI_o, b_ft, bI_1, bI_0, ↓kC_l, ↓kC_r, Option.toList_some, Option.toList_none, List.cons_append, List.nil_append, s1_0, s1_1i, s1_1r, s1_1w, s1_1n, s1_s, s2_0, s2_1i, s2_1r, s2_1w, s2_1n, s2_s, gI_sI, gI_sR, gI_sL, gI_sD, gR_sI, gR_sR, gR_sL, gR_sD, gL_sI, gL_sR, gL_sL, gL_sD, gD_sI, gD_sR, gD_sL, gD_sD, isK_sI, isK_sR, isK_sL, isK_sD, inL_sI, inL_sR, inL_sL, inL_sD, nx_sI, nx_sR, nx_sL, nx_sD, kd_sI, kd_sR, kd_sL, kd_sD, ln_sI, ln_sR, ln_sL, ln_sD, ↓reduceIte, c8_n, c8_1, c8_2, c8_3, c8_4, Nat.reduceAdd, k_s S, k_land S, k_nodes S, k_hear S, k_routes S, k_traffic S, k_market S, g_cnt S, r_land S, r_routes S, r_traffic S, r_market S, r_nodes S, r_hear S, r_rland S, r_tland S, r_troutes S, l_nodes S hk8, l_hear S hk8, r_node S hk8, r_queue S hk8, r_set S hk8, r_frames S hk8, r_bits S hk8, k_node S hk8, k_queue S hk8, k_frames S hk8, k_set S hk8, k_bits S hk8, ii_nat (lt31 hk8), le_f (n8 S) hk, ii_succ, ii_inj (lt31 hk8) (lt31 hi)]
      by_cases hki : k = i
      · rw [if_pos hki, if_pos hki]
      · rw [if_neg hki, if_neg hki]) n 0 (0, 0) (by omega)
  simp only [↓e_Land_isSuspect_0, ↓e_Land_isSuspect_1, ↓e_Land_isSuspect_4, ↓e_Land_isSuspect_5, ↓e_Land_isSuspect_6, ↓e_Land_isSuspect_9, ↓e_Land_isSuspect_10, ↓e_Land_isSuspect_11, ↓e_Land_isSuspect_12, ↓e_Land_isSuspect_15, ↓e_Land_isSuspect_16, ↓e_Land_isSuspect_17, ↓e_Land_isSuspect_20, ↓e_Land_isSuspect_21, ↓e_Land_isSuspect_23, ↓e_Land_isSuspect_24, ↓e_Land_isSuspect_26, ↓e_Land_isSuspect_27, ↓e_Land_isSuspect_29, ↓e_Land_isSuspect_30, ↓e_Land_isSuspect_34, ↓e_Land_isSuspect_35, ↓e_Land_isSuspect_38, ↓e_Land_isSuspect_41, ↓e_Land_isSuspect_43, ↓e_Land_isSuspect_44, ↓e_Land_isSuspect_47, ↓e_Land_isSuspect_49, ↓e_Land_isSuspect_50, ↓e_Land_isSuspect_53, ↓e_Land_isSuspect_55, ↓e_Land_isSuspect_56, ↓e_Land_isSuspect_59, ↓e_Land_isSuspect_60, ↓e_Land_isSuspect_61, ↓e_Land_isSuspect_63, ↓e_Land_isSuspect_65, ↓e_Land_isSuspect_66, ↓e_Land_isSuspect_69, ↓e_Land_isSuspect_71, ↓e_Land_isSuspect_72, ↓e_Land_isSuspect_75, ↓e_Land_isSuspect_76, ↓e_Land_isSuspect_77, ↓e_Land_isSuspect_79, ↓e_Land_isSuspect_82, ↓e_Land_isSuspect_85, ↓e_Land_isSuspect_87, ↓e_Land_isSuspect_90, ↓e_Land_isSuspect_91, ↓e_Land_isSuspect_94, ↓e_Land_isSuspect_97, ↓e_Land_isSuspect_98, ↓e_Land_isSuspect_99, ↓e_Land_isSuspect_101, ↓e_Land_isSuspect_102, ↓e_Land_isSuspect_104, ↓e_Land_isSuspect_106, ↓e_Land_isSuspect_107, ↓e_Land_isSuspect_108, ↓e_Land_isSuspect_111, ↓e_Land_isSuspect_112, ↓e_Land_isSuspect_115, ↓e_Land_isSuspect_116, not_true_eq_false, not_false_eq_true, one0, true_or, or_true, eq_self, bI_z, bI_nz, bI_o, b_ft, bI_1, bI_0, ↓kC_l, ↓kC_r, Option.toList_some, Option.toList_none, List.cons_append, List.nil_append, s1_0, s1_1i, s1_1r, s1_1w, s1_1n, s1_s, s2_0, s2_1i, s2_1r, s2_1w, s2_1n, s2_s, gI_sI, gI_sR, gI_sL, gI_sD, gR_sI, gR_sR, gR_sL, gR_sD, gL_sI, gL_sR, gL_sL, gL_sD, gD_sI, gD_sR, gD_sL, gD_sD, isK_sI, isK_sR, isK_sL, isK_sD, inL_sI, inL_sR, inL_sL, inL_sD, nx_sI, nx_sR, nx_sL, nx_sD, kd_sI, kd_sR, kd_sL, kd_sD, ln_sI, ln_sR, ln_sL, ln_sD, ↓reduceIte, c8_n, c8_1, c8_2, c8_3, c8_4, Nat.reduceAdd, k_s S, k_land S, k_nodes S, k_hear S, k_routes S, k_traffic S, k_market S, g_cnt S, r_land S, r_routes S, r_traffic S, r_market S, r_nodes S, r_hear S, r_rland S, r_tland S, r_troutes S, l_nodes S hi, l_hear S hi, r_node S hi, r_queue S hi, r_set S hi, r_frames S hi, r_bits S hi, k_node S hi, k_queue S hi, k_frames S hi, k_set S hi, k_bits S hi, ii_nat (lt31 hi)]
  refine step.trans ?_
  rw [e_Land_isSuspect_32]
  simp only [↓e_Land_isSuspect_0, ↓e_Land_isSuspect_1, ↓e_Land_isSuspect_4, ↓e_Land_isSuspect_5, ↓e_Land_isSuspect_6, ↓e_Land_isSuspect_9, ↓e_Land_isSuspect_10, ↓e_Land_isSuspect_11, ↓e_Land_isSuspect_12, ↓e_Land_isSuspect_15, ↓e_Land_isSuspect_16, ↓e_Land_isSuspect_17, ↓e_Land_isSuspect_20, ↓e_Land_isSuspect_21, ↓e_Land_isSuspect_23, ↓e_Land_isSuspect_24, ↓e_Land_isSuspect_26, ↓e_Land_isSuspect_27, ↓e_Land_isSuspect_29, ↓e_Land_isSuspect_30, ↓e_Land_isSuspect_34, ↓e_Land_isSuspect_35, ↓e_Land_isSuspect_38, ↓e_Land_isSuspect_41, ↓e_Land_isSuspect_43, ↓e_Land_isSuspect_44, ↓e_Land_isSuspect_47, ↓e_Land_isSuspect_49, ↓e_Land_isSuspect_50, ↓e_Land_isSuspect_53, ↓e_Land_isSuspect_55, ↓e_Land_isSuspect_56, ↓e_Land_isSuspect_59, ↓e_Land_isSuspect_60, ↓e_Land_isSuspect_61, ↓e_Land_isSuspect_63, ↓e_Land_isSuspect_65, ↓e_Land_isSuspect_66, ↓e_Land_isSuspect_69, ↓e_Land_isSuspect_71, ↓e_Land_isSuspect_72, ↓e_Land_isSuspect_75, ↓e_Land_isSuspect_76, ↓e_Land_isSuspect_77, ↓e_Land_isSuspect_79, ↓e_Land_isSuspect_82, ↓e_Land_isSuspect_85, ↓e_Land_isSuspect_87, ↓e_Land_isSuspect_90, ↓e_Land_isSuspect_91, ↓e_Land_isSuspect_94, ↓e_Land_isSuspect_97, ↓e_Land_isSuspect_98, ↓e_Land_isSuspect_99, ↓e_Land_isSuspect_101, ↓e_Land_isSuspect_102, ↓e_Land_isSuspect_104, ↓e_Land_isSuspect_106, ↓e_Land_isSuspect_107, ↓e_Land_isSuspect_108, ↓e_Land_isSuspect_111, ↓e_Land_isSuspect_112, ↓e_Land_isSuspect_115, ↓e_Land_isSuspect_116, not_true_eq_false, not_false_eq_true, one0, true_or, or_true, eq_self, bI_z, bI_nz, bI_o, b_ft, bI_1, bI_0, ↓kC_l, ↓kC_r, Option.toList_some, Option.toList_none, List.cons_append, List.nil_append, s1_0, s1_1i, s1_1r, s1_1w, s1_1n, s1_s, s2_0, s2_1i, s2_1r, s2_1w, s2_1n, s2_s, gI_sI, gI_sR, gI_sL, gI_sD, gR_sI, gR_sR, gR_sL, gR_sD, gL_sI, gL_sR, gL_sL, gL_sD, gD_sI, gD_sR, gD_sL, gD_sD, isK_sI, isK_sR, isK_sL, isK_sD, inL_sI, inL_sR, inL_sL, inL_sD, nx_sI, nx_sR, nx_sL, nx_sD, kd_sI, kd_sR, kd_sL, kd_sD, ln_sI, ln_sR, ln_sL, ln_sD, ↓reduceIte, c8_n, c8_1, c8_2, c8_3, c8_4, Nat.reduceAdd, k_s S, k_land S, k_nodes S, k_hear S, k_routes S, k_traffic S, k_market S, g_cnt S, r_land S, r_routes S, r_traffic S, r_market S, r_nodes S, r_hear S, r_rland S, r_tland S, r_troutes S, le_t (n8 S)]
  generalize upto (suF h i) n 0 (0, 0) = r
  by_cases h1 : lg_cmp (gI h (5 + 9 * i) 13).toInt64 3 < 0
  · rw [if_pos h1, decide_eq_true h1]; rfl
  · rw [if_neg h1, decide_eq_false h1]
    by_cases h2 : 0 ≤ lg_cmp (4 * (gI h (5 + 9 * i) 12).toInt64 * r.2) (r.1 * (gI h (5 + 9 * i) 13).toInt64)
    · rw [if_pos h2, decide_eq_true h2]; rfl
    · rw [if_neg h2, decide_eq_false h2]; rfl
def usr (x y : Int32) : Int32 := (x.toUInt32 >>> (y.toUInt32 &&& Int32.toUInt32 31)).toInt32
def pc1 (x : Int32) : Int32 := x - (usr x 1 &&& 1431655765)
def pc2 (x : Int32) : Int32 := (x &&& 858993459) + (usr x 2 &&& 858993459)
def pc3 (x : Int32) : Int32 := (x + usr x 4) &&& 252645135
def pc4 (x : Int32) : Int32 := x + usr x 8
def pc5 (x : Int32) : Int32 := x + usr x 16
def pcI (x : Int32) : Int32 := pc5 (pc4 (pc3 (pc2 (pc1 x)))) &&& 63
theorem q_bitCount (x : Int32) : WP Gm j_Integer_bitCount 0 [some (.inl x)] [] h Q = Q (.inl (some (.inl (pcI x)))) h := by
  simp only [↓e_Integer_bitCount_0, ↓e_Integer_bitCount_1, ↓e_Integer_bitCount_2, ↓e_Integer_bitCount_3, ↓e_Integer_bitCount_4, ↓e_Integer_bitCount_7, ↓e_Integer_bitCount_8, ↓e_Integer_bitCount_9, ↓e_Integer_bitCount_10, ↓e_Integer_bitCount_11, ↓e_Integer_bitCount_14, ↓e_Integer_bitCount_15, ↓e_Integer_bitCount_16, ↓e_Integer_bitCount_17, ↓e_Integer_bitCount_18, ↓e_Integer_bitCount_21, ↓e_Integer_bitCount_22, ↓e_Integer_bitCount_23, ↓e_Integer_bitCount_24, ↓e_Integer_bitCount_25, ↓e_Integer_bitCount_26, ↓e_Integer_bitCount_27, ↓e_Integer_bitCount_28, ↓e_Integer_bitCount_29, ↓e_Integer_bitCount_32, ↓e_Integer_bitCount_33, ↓e_Integer_bitCount_34, ↓e_Integer_bitCount_35, ↓e_Integer_bitCount_36, ↓e_Integer_bitCount_38, ↓e_Integer_bitCount_39, ↓e_Integer_bitCount_40, ↓e_Integer_bitCount_41, ↓e_Integer_bitCount_42, ↓e_Integer_bitCount_43, ↓e_Integer_bitCount_45, ↓e_Integer_bitCount_46, ↓e_Integer_bitCount_47, ↓e_Integer_bitCount_48, ↓e_Integer_bitCount_49, ↓e_Integer_bitCount_51, ↓e_Integer_bitCount_52, not_true_eq_false, not_false_eq_true, one0, true_or, or_true, eq_self, bI_z, bI_nz, bI_o, b_ft, bI_1, bI_0, ↓kC_l, ↓kC_r, Option.toList_some, Option.toList_none, List.cons_append, List.nil_append, s1_0, s1_1i, s1_1r, s1_1w, s1_1n, s1_s, s2_0, s2_1i, s2_1r, s2_1w, s2_1n, s2_s, gI_sI, gI_sR, gI_sL, gI_sD, gR_sI, gR_sR, gR_sL, gR_sD, gL_sI, gL_sR, gL_sL, gL_sD, gD_sI, gD_sR, gD_sL, gD_sD, isK_sI, isK_sR, isK_sL, isK_sD, inL_sI, inL_sR, inL_sL, inL_sD, nx_sI, nx_sR, nx_sL, nx_sD, kd_sI, kd_sR, kd_sL, kd_sD, ln_sI, ln_sR, ln_sL, ln_sD, ↓reduceIte, c8_n, c8_1, c8_2, c8_3, c8_4, Nat.reduceAdd]
  rfl
def cvS (h : Hp) (s : Int32) (k : Nat) (r : Int32) : Int32 := if tb s k = true then r ||| gI h 4 k else r
def cvF (n : Nat) (h : Hp) (s : Int32) : Bool := decide (upto (cvS h s) n 0 s = ii (2 ^ n - 1))
theorem q_isCovering (S : Str n h) (s : Int32) : WP Gm j_Land_isCovering 0 [some (.inr (.inl (some 2))), some (.inl s), none, none] [] h Q = Q (.inl (some (.inl (bI (cvF n h s))))) h := by
  have step := loop0 (fun k r => WP Gm j_Land_isCovering 4 [some (.inr (.inl (some 2))), some (.inl s), some (.inl r), some (.inl (ii k))] [] h Q) (cvS h s) n
    (fun k r hk => by
      have hk8 := lt_8 (n8 S) hk
      rw [e_Land_isCovering_4]
      unfold cvS
      simp only [↓e_Land_isCovering_0, ↓e_Land_isCovering_1, ↓e_Land_isCovering_2, ↓e_Land_isCovering_3, ↓e_Land_isCovering_5, ↓e_Land_isCovering_6, ↓e_Land_isCovering_9, ↓e_Land_isCovering_12, ↓e_Land_isCovering_13, ↓e_Land_isCovering_14, ↓e_Land_isCovering_17, ↓e_Land_isCovering_20, ↓e_Land_isCovering_21, ↓e_Land_isCovering_22, ↓e_Land_isCovering_25, ↓e_Land_isCovering_26, ↓e_Land_isCovering_27, ↓e_Land_isCovering_28, ↓e_Land_isCovering_29, ↓e_Land_isCovering_32, ↓e_Land_isCovering_35, ↓e_Land_isCovering_36, ↓e_Land_isCovering_37, ↓e_Land_isCovering_40, ↓e_Land_isCovering_43, ↓e_Land_isCovering_44, ↓e_Land_isCovering_47, ↓e_Land_isCovering_48, not_true_eq_false, not_false_eq_true, one0, true_or, or_true, eq_self, bI_z, bI_nz, bI_o, b_ft, bI_1, bI_0, ↓kC_l, ↓kC_r, Option.toList_some, Option.toList_none, List.cons_append, List.nil_append, s1_0, s1_1i, s1_1r, s1_1w, s1_1n, s1_s, s2_0, s2_1i, s2_1r, s2_1w, s2_1n, s2_s, gI_sI, gI_sR, gI_sL, gI_sD, gR_sI, gR_sR, gR_sL, gR_sD, gL_sI, gL_sR, gL_sL, gL_sD, gD_sI, gD_sR, gD_sL, gD_sD, isK_sI, isK_sR, isK_sL, isK_sD, inL_sI, inL_sR, inL_sL, inL_sD, nx_sI, nx_sR, nx_sL, nx_sD, kd_sI, kd_sR, kd_sL, kd_sD, ln_sI, ln_sR, ln_sL, ln_sD, ↓reduceIte, c8_n, c8_1, c8_2, c8_3, c8_4, Nat.reduceAdd, k_s S, k_land S, k_nodes S, k_hear S, k_routes S, k_traffic S, k_market S, g_cnt S, r_land S, r_routes S, r_traffic S, r_market S, r_nodes S, r_hear S, r_rland S, r_tland S, r_troutes S, l_nodes S hk8, l_hear S hk8, r_node S hk8, r_queue S hk8, r_set S hk8, r_frames S hk8, r_bits S hk8, k_node S hk8, k_queue S hk8, k_frames S hk8, k_set S hk8, k_bits S hk8, ii_nat (lt31 hk8), le_f (n8 S) hk, ii_succ, q_isIn]
      cases tb s k <;> rfl) n 0 s (by omega)
  simp only [↓e_Land_isCovering_0, ↓e_Land_isCovering_1, ↓e_Land_isCovering_2, ↓e_Land_isCovering_3, ↓e_Land_isCovering_5, ↓e_Land_isCovering_6, ↓e_Land_isCovering_9, ↓e_Land_isCovering_12, ↓e_Land_isCovering_13, ↓e_Land_isCovering_14, ↓e_Land_isCovering_17, ↓e_Land_isCovering_20, ↓e_Land_isCovering_21, ↓e_Land_isCovering_22, ↓e_Land_isCovering_25, ↓e_Land_isCovering_26, ↓e_Land_isCovering_27, ↓e_Land_isCovering_28, ↓e_Land_isCovering_29, ↓e_Land_isCovering_32, ↓e_Land_isCovering_35, ↓e_Land_isCovering_36, ↓e_Land_isCovering_37, ↓e_Land_isCovering_40, ↓e_Land_isCovering_43, ↓e_Land_isCovering_44, ↓e_Land_isCovering_47, ↓e_Land_isCovering_48, not_true_eq_false, not_false_eq_true, one0, true_or, or_true, eq_self, bI_z, bI_nz, bI_o, b_ft, bI_1, bI_0, ↓kC_l, ↓kC_r, Option.toList_some, Option.toList_none, List.cons_append, List.nil_append, s1_0, s1_1i, s1_1r, s1_1w, s1_1n, s1_s, s2_0, s2_1i, s2_1r, s2_1w, s2_1n, s2_s, gI_sI, gI_sR, gI_sL, gI_sD, gR_sI, gR_sR, gR_sL, gR_sD, gL_sI, gL_sR, gL_sL, gL_sD, gD_sI, gD_sR, gD_sL, gD_sD, isK_sI, isK_sR, isK_sL, isK_sD, inL_sI, inL_sR, inL_sL, inL_sD, nx_sI, nx_sR, nx_sL, nx_sD, kd_sI, kd_sR, kd_sL, kd_sD, ln_sI, ln_sR, ln_sL, ln_sD, ↓reduceIte, c8_n, c8_1, c8_2, c8_3, c8_4, Nat.reduceAdd, k_s S, k_land S, k_nodes S, k_hear S, k_routes S, k_traffic S, k_market S, g_cnt S, r_land S, r_routes S, r_traffic S, r_market S, r_nodes S, r_hear S, r_rland S, r_tland S, r_troutes S]
  refine step.trans ?_
  rw [e_Land_isCovering_4]
  simp only [↓e_Land_isCovering_0, ↓e_Land_isCovering_1, ↓e_Land_isCovering_2, ↓e_Land_isCovering_3, ↓e_Land_isCovering_5, ↓e_Land_isCovering_6, ↓e_Land_isCovering_9, ↓e_Land_isCovering_12, ↓e_Land_isCovering_13, ↓e_Land_isCovering_14, ↓e_Land_isCovering_17, ↓e_Land_isCovering_20, ↓e_Land_isCovering_21, ↓e_Land_isCovering_22, ↓e_Land_isCovering_25, ↓e_Land_isCovering_26, ↓e_Land_isCovering_27, ↓e_Land_isCovering_28, ↓e_Land_isCovering_29, ↓e_Land_isCovering_32, ↓e_Land_isCovering_35, ↓e_Land_isCovering_36, ↓e_Land_isCovering_37, ↓e_Land_isCovering_40, ↓e_Land_isCovering_43, ↓e_Land_isCovering_44, ↓e_Land_isCovering_47, ↓e_Land_isCovering_48, not_true_eq_false, not_false_eq_true, one0, true_or, or_true, eq_self, bI_z, bI_nz, bI_o, b_ft, bI_1, bI_0, ↓kC_l, ↓kC_r, Option.toList_some, Option.toList_none, List.cons_append, List.nil_append, s1_0, s1_1i, s1_1r, s1_1w, s1_1n, s1_s, s2_0, s2_1i, s2_1r, s2_1w, s2_1n, s2_s, gI_sI, gI_sR, gI_sL, gI_sD, gR_sI, gR_sR, gR_sL, gR_sD, gL_sI, gL_sR, gL_sL, gL_sD, gD_sI, gD_sR, gD_sL, gD_sD, isK_sI, isK_sR, isK_sL, isK_sD, inL_sI, inL_sR, inL_sL, inL_sD, nx_sI, nx_sR, nx_sL, nx_sD, kd_sI, kd_sR, kd_sL, kd_sD, ln_sI, ln_sR, ln_sL, ln_sD, ↓reduceIte, c8_n, c8_1, c8_2, c8_3, c8_4, Nat.reduceAdd, k_s S, k_land S, k_nodes S, k_hear S, k_routes S, k_traffic S, k_market S, g_cnt S, r_land S, r_routes S, r_traffic S, r_market S, r_nodes S, r_hear S, r_rland S, r_tland S, r_troutes S, le_t (n8 S), q_everyone _ S]
  unfold cvF
  by_cases h1 : upto (cvS h s) n 0 s = ii (2 ^ n - 1)
  · rw [if_neg (fun q => q h1), decide_eq_true h1]; rfl
  · rw [if_pos h1, decide_eq_false h1]; rfl
def fcS (n : Nat) (h : Hp) (k : Nat) (b : Int32) : Int32 := if (decide (pcI (ii k) < pcI b) && cvF n h (ii k)) = true then ii k else b
def fcF (n : Nat) (h : Hp) : Int32 := upto (fcS n h) (2 ^ n - 1) 0 (ii (2 ^ n - 1))
theorem p256 {n : Nat} (hn : n ≤ 8) : 2 ^ n ≤ 256 := by
  have : ∀ n, n ≤ 8 → 2 ^ n ≤ 256 := by decide
  exact this n hn
theorem q_fewestCovering (S : Str n h) : WP Gm j_Land_fewestCovering 0 [some (.inr (.inl (some 2))), none, none] [] h Q = Q (.inl (some (.inl (fcF n h)))) h := by
  have hp := p256 (n8 S)
  have step := loop0 (fun k b => WP Gm j_Land_fewestCovering 7 [some (.inr (.inl (some 2))), some (.inl b), some (.inl (ii k))] [] h Q) (fcS n h) (2 ^ n - 1)
    (fun k b hk => by
      have e1 : (ii (2 ^ n - 1) ≤ ii k) = False := by
        rw [ii_le (by omega) (by omega)]
        simp
        omega
      rw [e_Land_fewestCovering_7]
      unfold fcS
      simp only [↓e_Land_fewestCovering_0, ↓e_Land_fewestCovering_1, ↓e_Land_fewestCovering_4, ↓e_Land_fewestCovering_5, ↓e_Land_fewestCovering_6, ↓e_Land_fewestCovering_8, ↓e_Land_fewestCovering_9, ↓e_Land_fewestCovering_12, ↓e_Land_fewestCovering_15, ↓e_Land_fewestCovering_16, ↓e_Land_fewestCovering_19, ↓e_Land_fewestCovering_20, ↓e_Land_fewestCovering_23, ↓e_Land_fewestCovering_26, ↓e_Land_fewestCovering_27, ↓e_Land_fewestCovering_28, ↓e_Land_fewestCovering_31, ↓e_Land_fewestCovering_34, ↓e_Land_fewestCovering_35, ↓e_Land_fewestCovering_36, ↓e_Land_fewestCovering_39, ↓e_Land_fewestCovering_42, ↓e_Land_fewestCovering_43, not_true_eq_false, not_false_eq_true, one0, true_or, or_true, eq_self, bI_z, bI_nz, bI_o, b_ft, bI_1, bI_0, ↓kC_l, ↓kC_r, Option.toList_some, Option.toList_none, List.cons_append, List.nil_append, s1_0, s1_1i, s1_1r, s1_1w, s1_1n, s1_s, s2_0, s2_1i, s2_1r, s2_1w, s2_1n, s2_s, gI_sI, gI_sR, gI_sL, gI_sD, gR_sI, gR_sR, gR_sL, gR_sD, gL_sI, gL_sR, gL_sL, gL_sD, gD_sI, gD_sR, gD_sL, gD_sD, isK_sI, isK_sR, isK_sL, isK_sD, inL_sI, inL_sR, inL_sL, inL_sD, nx_sI, nx_sR, nx_sL, nx_sD, kd_sI, kd_sR, kd_sL, kd_sD, ln_sI, ln_sR, ln_sL, ln_sD, ↓reduceIte, c8_n, c8_1, c8_2, c8_3, c8_4, Nat.reduceAdd, k_s S, k_land S, k_nodes S, k_hear S, k_routes S, k_traffic S, k_market S, g_cnt S, r_land S, r_routes S, r_traffic S, r_market S, r_nodes S, r_hear S, r_rland S, r_tland S, r_troutes S, q_everyone _ S, e1, ii_succ, q_bitCount, q_isCovering _ S]
      by_cases h1 : pcI b ≤ pcI (ii k)
      · rw [if_pos h1, decide_eq_false (Int32.not_lt.mpr h1)]; rfl
      · rw [if_neg h1, decide_eq_true (Int32.not_le.mp h1)]
        cases cvF n h (ii k) <;> rfl) (2 ^ n - 1) 0 (ii (2 ^ n - 1)) (by omega)
  have e2 : (ii (2 ^ n - 1) ≤ ii (2 ^ n - 1)) = True := by
    rw [ii_le (by omega) (by omega)]
    simp
  simp only [↓e_Land_fewestCovering_0, ↓e_Land_fewestCovering_1, ↓e_Land_fewestCovering_4, ↓e_Land_fewestCovering_5, ↓e_Land_fewestCovering_6, ↓e_Land_fewestCovering_8, ↓e_Land_fewestCovering_9, ↓e_Land_fewestCovering_12, ↓e_Land_fewestCovering_15, ↓e_Land_fewestCovering_16, ↓e_Land_fewestCovering_19, ↓e_Land_fewestCovering_20, ↓e_Land_fewestCovering_23, ↓e_Land_fewestCovering_26, ↓e_Land_fewestCovering_27, ↓e_Land_fewestCovering_28, ↓e_Land_fewestCovering_31, ↓e_Land_fewestCovering_34, ↓e_Land_fewestCovering_35, ↓e_Land_fewestCovering_36, ↓e_Land_fewestCovering_39, ↓e_Land_fewestCovering_42, ↓e_Land_fewestCovering_43, not_true_eq_false, not_false_eq_true, one0, true_or, or_true, eq_self, bI_z, bI_nz, bI_o, b_ft, bI_1, bI_0, ↓kC_l, ↓kC_r, Option.toList_some, Option.toList_none, List.cons_append, List.nil_append, s1_0, s1_1i, s1_1r, s1_1w, s1_1n, s1_s, s2_0, s2_1i, s2_1r, s2_1w, s2_1n, s2_s, gI_sI, gI_sR, gI_sL, gI_sD, gR_sI, gR_sR, gR_sL, gR_sD, gL_sI, gL_sR, gL_sL, gL_sD, gD_sI, gD_sR, gD_sL, gD_sD, isK_sI, isK_sR, isK_sL, isK_sD, inL_sI, inL_sR, inL_sL, inL_sD, nx_sI, nx_sR, nx_sL, nx_sD, kd_sI, kd_sR, kd_sL, kd_sD, ln_sI, ln_sR, ln_sL, ln_sD, ↓reduceIte, c8_n, c8_1, c8_2, c8_3, c8_4, Nat.reduceAdd, k_s S, k_land S, k_nodes S, k_hear S, k_routes S, k_traffic S, k_market S, g_cnt S, r_land S, r_routes S, r_traffic S, r_market S, r_nodes S, r_hear S, r_rland S, r_tland S, r_troutes S, q_everyone _ S]
  refine step.trans ?_
  rw [e_Land_fewestCovering_7]
  simp only [↓e_Land_fewestCovering_0, ↓e_Land_fewestCovering_1, ↓e_Land_fewestCovering_4, ↓e_Land_fewestCovering_5, ↓e_Land_fewestCovering_6, ↓e_Land_fewestCovering_8, ↓e_Land_fewestCovering_9, ↓e_Land_fewestCovering_12, ↓e_Land_fewestCovering_15, ↓e_Land_fewestCovering_16, ↓e_Land_fewestCovering_19, ↓e_Land_fewestCovering_20, ↓e_Land_fewestCovering_23, ↓e_Land_fewestCovering_26, ↓e_Land_fewestCovering_27, ↓e_Land_fewestCovering_28, ↓e_Land_fewestCovering_31, ↓e_Land_fewestCovering_34, ↓e_Land_fewestCovering_35, ↓e_Land_fewestCovering_36, ↓e_Land_fewestCovering_39, ↓e_Land_fewestCovering_42, ↓e_Land_fewestCovering_43, not_true_eq_false, not_false_eq_true, one0, true_or, or_true, eq_self, bI_z, bI_nz, bI_o, b_ft, bI_1, bI_0, ↓kC_l, ↓kC_r, Option.toList_some, Option.toList_none, List.cons_append, List.nil_append, s1_0, s1_1i, s1_1r, s1_1w, s1_1n, s1_s, s2_0, s2_1i, s2_1r, s2_1w, s2_1n, s2_s, gI_sI, gI_sR, gI_sL, gI_sD, gR_sI, gR_sR, gR_sL, gR_sD, gL_sI, gL_sR, gL_sL, gL_sD, gD_sI, gD_sR, gD_sL, gD_sD, isK_sI, isK_sR, isK_sL, isK_sD, inL_sI, inL_sR, inL_sL, inL_sD, nx_sI, nx_sR, nx_sL, nx_sD, kd_sI, kd_sR, kd_sL, kd_sD, ln_sI, ln_sR, ln_sL, ln_sD, ↓reduceIte, c8_n, c8_1, c8_2, c8_3, c8_4, Nat.reduceAdd, k_s S, k_land S, k_nodes S, k_hear S, k_routes S, k_traffic S, k_market S, g_cnt S, r_land S, r_routes S, r_traffic S, r_market S, r_nodes S, r_hear S, r_rland S, r_tland S, r_troutes S, q_everyone _ S, e2]
  rfl
end Q2
