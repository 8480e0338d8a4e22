/-! xmk: the market in numbers: c bids, of bidder b, channels x, price p; sets of them -/
section XMK
variable {b x p : Nat → Nat}
theorem ii_and (a d : Nat) : ii a &&& ii d = ii (a &&& d) := by
  apply Int32.toBitVec_inj.mp
  show BitVec.ofNat 32 a &&& BitVec.ofNat 32 d = BitVec.ofNat 32 (a &&& d)
  apply BitVec.eq_of_getLsbD_eq
  intro i hi
  simp [BitVec.getLsbD_ofNat, Nat.testBit_and, hi]
theorem ii_or (a d : Nat) : ii a ||| ii d = ii (a ||| d) := by
  apply Int32.toBitVec_inj.mp
  show BitVec.ofNat 32 a ||| BitVec.ofNat 32 d = BitVec.ofNat 32 (a ||| d)
  apply BitVec.eq_of_getLsbD_eq
  intro i hi
  simp [BitVec.getLsbD_ofNat, Nat.testBit_or, hi]
/-- what bid i takes: its channels, its bidder's bit -/
def nd9 (b x : Nat → Nat) (i : Nat) : Nat := x i ||| 2 ^ (6 + b i)
/-- what the bids of s under m take; none: two of them exclude each other -/
def ms (b x : Nat → Nat) (s : Nat) : Nat → Option Nat
  | 0 => some 0
  | m + 1 => if s.testBit m = true then (match ms b x s m with | none => none | some a => if a &&& nd9 b x m = 0 then some (a ||| nd9 b x m) else none) else ms b x s m
def va9 (b x : Nat → Nat) (s c : Nat) : Bool := (ms b x s c).isSome
/-- a bid of w is among those of s under m -/
def ho (b : Nat → Nat) (w s : Nat) : Nat → Bool
  | 0 => false
  | m + 1 => ho b w s m || (s.testBit m && decide (b m = w))
/-- the best of the sets under k -/
def am (b x p : Nat → Nat) (c : Nat) : Nat → Nat
  | 0 => 0
  | k + 1 => if va9 b x k c = true ∧ sP p (am b x p c k) c < sP p k c then k else am b x p c k
/-- what the best set under k without w is worth -/
def um (b x p : Nat → Nat) (c w : Nat) : Nat → Nat
  | 0 => 0
  | k + 1 => if va9 b x k c = true ∧ ho b w k c = false ∧ um b x p c w k < sP p k c then sP p k c else um b x p c w k
theorem ms_s (s m : Nat) : ms b x s (m + 1) = if s.testBit m = true then (match ms b x s m with | none => none | some a => if a &&& nd9 b x m = 0 then some (a ||| nd9 b x m) else none) else ms b x s m := rfl
theorem ho_s (w s m : Nat) : ho b w s (m + 1) = (ho b w s m || (s.testBit m && decide (b m = w))) := rfl
theorem am_s (c k : Nat) : am b x p c (k + 1) = if va9 b x k c = true ∧ sP p (am b x p c k) c < sP p k c then k else am b x p c k := rfl
theorem um_s (c w k : Nat) : um b x p c w (k + 1) = if va9 b x k c = true ∧ ho b w k c = false ∧ um b x p c w k < sP p k c then sP p k c else um b x p c w k := rfl
theorem sP_s (s m : Nat) : sP p s (m + 1) = sP p s m + (if s.testBit m = true then p m else 0) := rfl
theorem ms_congr {s s' : Nat} : ∀ {m : Nat}, (∀ i, i < m → s.testBit i = s'.testBit i) → ms b x s m = ms b x s' m
  | 0, _ => rfl
  | m + 1, h => by
    unfold ms
    rw [ms_congr (fun i hi => h i (by omega)), h m (by omega)]
theorem ho_congr {w s s' : Nat} : ∀ {m : Nat}, (∀ i, i < m → s.testBit i = s'.testBit i) → ho b w s m = ho b w s' m
  | 0, _ => rfl
  | m + 1, h => by
    unfold ho
    rw [ho_congr (fun i hi => h i (by omega)), h m (by omega)]
theorem ms_low {s c : Nat} (hs : s < 2 ^ c) : ms b x s (c + 1) = ms b x s c := by
  show (if s.testBit c = true then _ else _) = _
  rw [Nat.testBit_lt_two_pow hs, if_neg (by decide)]
theorem ho_low {w s c : Nat} (hs : s < 2 ^ c) : ho b w s (c + 1) = ho b w s c := by
  show (ho b w s c || (s.testBit c && _)) = _
  rw [Nat.testBit_lt_two_pow hs, Bool.false_and, Bool.or_false]
theorem tb_hi {k c : Nat} (hk : k < 2 ^ c) : (k + 2 ^ c).testBit c = true := by
  rw [Nat.add_comm k, Nat.testBit_two_pow_add_eq, Nat.testBit_lt_two_pow hk]
  rfl
theorem tb_lo {k c i : Nat} (hi : i < c) : (k + 2 ^ c).testBit i = k.testBit i := by
  rw [Nat.add_comm k, Nat.testBit_two_pow_add_gt hi k]
theorem ms_high {k c : Nat} (hk : k < 2 ^ c) : ms b x (k + 2 ^ c) (c + 1) = (match ms b x k c with | none => none | some a => if a &&& nd9 b x c = 0 then some (a ||| nd9 b x c) else none) := by
  show (if (k + 2 ^ c).testBit c = true then (match ms b x (k + 2 ^ c) c with | none => none | some a => if a &&& nd9 b x c = 0 then some (a ||| nd9 b x c) else none) else _) = _
  rw [tb_hi hk, if_pos rfl, ms_congr (s' := k) fun i hi => tb_lo hi]
theorem ho_high {w k c : Nat} (hk : k < 2 ^ c) : ho b w (k + 2 ^ c) (c + 1) = (ho b w k c || decide (b c = w)) := by
  show (ho b w (k + 2 ^ c) c || ((k + 2 ^ c).testBit c && decide (b c = w))) = _
  rw [tb_hi hk, Bool.true_and, ho_congr (s' := k) fun i hi => tb_lo hi]
theorem va_low {s c : Nat} (hs : s < 2 ^ c) : va9 b x s (c + 1) = va9 b x s c := by unfold va9; rw [ms_low hs]
theorem am_lt {c : Nat} : ∀ {k : Nat}, 0 < k → am b x p c k < k
  | k + 1, _ => by
    unfold am
    split
    · omega
    · rcases Nat.eq_zero_or_pos k with e | e
      · subst e; exact Nat.lt_succ_self _
      · have := am_lt (c := c) e
        omega
theorem am_up {c : Nat} : ∀ {k : Nat}, k ≤ 2 ^ c → am b x p (c + 1) k = am b x p c k
  | 0, _ => rfl
  | k + 1, h => by
    have ih := am_up (c := c) (k := k) (by omega)
    have hlt : am b x p c k < 2 ^ c := by
      rcases Nat.eq_zero_or_pos k with e | e
      · subst e; exact Nat.two_pow_pos c
      · have := am_lt (b := b) (x := x) (p := p) (c := c) e
        omega
    unfold am
    rw [ih, va_low (by omega), sP_low (s := k) (by omega), sP_low hlt]
theorem um_up {c w : Nat} : ∀ {k : Nat}, k ≤ 2 ^ c → um b x p (c + 1) w k = um b x p c w k
  | 0, _ => rfl
  | k + 1, h => by
    have ih := um_up (c := c) (w := w) (k := k) (by omega)
    unfold um
    rw [ih, va_low (by omega), sP_low (s := k) (by omega), ho_low (by omega)]
/-- a bidder's bit says whether it has a bid in the set -/
theorem ms_bit {c w s : Nat} : ∀ {m : Nat}, (∀ i, i < m → x i < 64) → ∀ a, ms b x s m = some a → a.testBit (6 + w) = ho b w s m
  | 0, _, a, e => by
    cases Option.some.inj e
    exact Nat.zero_testBit _
  | m + 1, hx, a, e => by
    unfold ms at e
    unfold ho
    cases hb : s.testBit m with
    | false =>
      rw [hb, if_neg (by decide)] at e
      rw [ms_bit (c := c) (fun i hi => hx i (by omega)) a e, Bool.false_and, Bool.or_false]
    | true =>
      rw [hb, if_pos rfl] at e
      cases e1 : ms b x s m with
      | none => rw [e1] at e; cases e
      | some a1 =>
        rw [e1] at e
        dsimp only at e
        by_cases c1 : a1 &&& nd9 b x m = 0
        · rw [if_pos c1] at e
          cases Option.some.inj e
          have hx6 : (x m).testBit (6 + w) = false := Nat.testBit_lt_two_pow (Nat.lt_of_lt_of_le (hx m (by omega)) (by rw [Nat.pow_add]; have := Nat.two_pow_pos w; omega))
          have hdb : decide (6 + b m = 6 + w) = decide (b m = w) := by
            by_cases q : b m = w
            · rw [decide_eq_true q, decide_eq_true (by omega)]
            · rw [decide_eq_false q, decide_eq_false (by omega)]
          unfold nd9
          rw [Nat.testBit_or, Nat.testBit_or, Nat.testBit_two_pow, ms_bit (c := c) (fun i hi => hx i (by omega)) a1 e1, hx6, hdb, Bool.true_and, Bool.false_or]
        · rw [if_neg c1] at e
          cases e
theorem ms_lt {s : Nat} : ∀ {m : Nat}, (∀ i, i < m → x i < 64 ∧ b i < 5) → ∀ a, ms b x s m = some a → a < 2048
  | 0, _, a, e => by
    cases Option.some.inj e
    omega
  | m + 1, hx, a, e => by
    unfold ms at e
    cases hb : s.testBit m with
    | false =>
      rw [hb, if_neg (by decide)] at e
      exact ms_lt (fun i hi => hx i (by omega)) a e
    | true =>
      rw [hb, if_pos rfl] at e
      cases e1 : ms b x s m with
      | none => rw [e1] at e; cases e
      | some a1 =>
        rw [e1] at e
        dsimp only at e
        by_cases c1 : a1 &&& nd9 b x m = 0
        · rw [if_pos c1] at e
          cases Option.some.inj e
          obtain ⟨h1, h2⟩ := hx m (by omega)
          have h3 : 2 ^ (6 + b m) < 2 ^ 11 := Nat.pow_lt_pow_right (by omega) (by omega)
          exact Nat.or_lt_two_pow (n := 11) (ms_lt (fun i hi => hx i (by omega)) a1 e1) (Nat.or_lt_two_pow (n := 11) (by omega) h3)
        · rw [if_neg c1] at e
          cases e
/-- of two bids of a set that is whole, the bidders are two -/
theorem ms_two {s i j : Nat} : ∀ {m : Nat}, i < j → j < m → s.testBit i = true → s.testBit j = true → b i = b j → (∀ i, i < m → x i < 64) → ms b x s m = none
  | m + 1, hij, hj, hi1, hj1, hb, hx => by
    unfold ms
    by_cases e : j = m
    · subst e
      rw [hj1, if_pos rfl]
      cases e1 : ms b x s j with
      | none => rfl
      | some a =>
        dsimp only
        have hh : ho b (b j) s j = true := by
          have : ∀ {m : Nat}, i < m → ho b (b j) s m = true := fun {m} hm => by
            induction m with
            | zero => omega
            | succ m ih =>
              unfold ho
              by_cases q : i = m
              · subst q
                rw [hi1, hb, decide_eq_true rfl, Bool.true_and, Bool.or_true]
              · rw [ih (by omega), Bool.true_or]
          exact this hij
        have hbit := ms_bit (c := 0) (w := b j) (fun i hi => hx i (by omega)) a e1
        rw [hh] at hbit
        rw [if_neg]
        intro c1
        have := congrArg (fun z => z.testBit (6 + b j)) c1
        simp only [Nat.testBit_and, Nat.zero_testBit, hbit, Bool.true_and] at this
        unfold nd9 at this
        rw [Nat.testBit_or, Nat.testBit_two_pow, decide_eq_true rfl, Bool.or_true] at this
        cases this
    · have ih := ms_two (m := m) hij (by omega) hi1 hj1 hb fun i hi => hx i (by omega)
      rw [ih]
      split <;> rfl
end XMK
