/-! xmk2: the reference's market in numbers -/
section XM2
variable {b x p : Nat → Nat} {h : Hp} {m : Nat}
theorem upto_end {α : Type} (f : Nat → α → α) : ∀ (m k : Nat) (a : α), upto f (m + 1) k a = f (k + m) (upto f m k a)
  | 0, _, _ => rfl
  | m + 1, k, a => by
    show upto f (m + 1) (k + 1) (f k a) = f (k + (m + 1)) (upto f m (k + 1) (f k a))
    rw [upto_end f m (k + 1) (f k a)]
    exact congrArg (fun z => f z _) (by omega)
theorem and_nd {a y w : Nat} (hy : y < 64) : (a &&& (y ||| 2 ^ (6 + w)) = 0) ↔ ((a % 64) &&& y = 0 ∧ (a / 64).testBit w = false) := by
  have e1 : a &&& y = (a % 64) &&& y := by
    apply Nat.eq_of_testBit_eq
    intro i
    rw [Nat.testBit_and, Nat.testBit_and, show (64 : Nat) = 2 ^ 6 from rfl, Nat.testBit_mod_two_pow]
    by_cases hi : i < 6
    · simp [hi]
    · have : y.testBit i = false := Nat.testBit_lt_two_pow (Nat.lt_of_lt_of_le hy (show 2 ^ 6 ≤ 2 ^ i from Nat.pow_le_pow_right (by omega) (by omega)))
      simp [this]
  have e2 : (a / 64).testBit w = a.testBit (6 + w) := by
    rw [show (64 : Nat) = 2 ^ 6 from rfl, Nat.testBit_div_two_pow, Nat.add_comm]
  have e3 : (a &&& 2 ^ (6 + w) = 0) ↔ a.testBit (6 + w) = false := by
    constructor
    · intro q
      have := congrArg (fun z => z.testBit (6 + w)) q
      simpa [Nat.testBit_and, Nat.testBit_two_pow_self] using this
    · intro q
      apply Nat.eq_of_testBit_eq
      intro i
      rw [Nat.testBit_and, Nat.testBit_two_pow, Nat.zero_testBit]
      by_cases e : 6 + w = i
      · subst e
        simp [q]
      · simp [e]
  rw [Nat.and_or_distrib_left, Nat.or_eq_zero_iff, e1, e2, e3]
theorem or_mod {a y w : Nat} (hy : y < 64) : (a ||| (y ||| 2 ^ (6 + w))) % 64 = (a % 64) ||| y := by
  apply Nat.eq_of_testBit_eq
  intro i
  rw [show (64 : Nat) = 2 ^ 6 from rfl, Nat.testBit_mod_two_pow, Nat.testBit_or, Nat.testBit_or, Nat.testBit_or, Nat.testBit_mod_two_pow, Nat.testBit_two_pow]
  by_cases hi : i < 6
  · have : decide (6 + w = i) = false := decide_eq_false (by omega)
    simp [hi, this]
  · have : y.testBit i = false := Nat.testBit_lt_two_pow (Nat.lt_of_lt_of_le hy (show 2 ^ 6 ≤ 2 ^ i from Nat.pow_le_pow_right (by omega) (by omega)))
    simp [hi, this]
theorem or_div {a y w : Nat} (hy : y < 64) : (a ||| (y ||| 2 ^ (6 + w))) / 64 = (a / 64) ||| 2 ^ w := by
  apply Nat.eq_of_testBit_eq
  intro i
  have : y.testBit (6 + i) = false := Nat.testBit_lt_two_pow (Nat.lt_of_lt_of_le hy (show 2 ^ 6 ≤ 2 ^ (6 + i) from Nat.pow_le_pow_right (by omega) (by omega)))
  have e : decide (6 + w = 6 + i) = decide (w = i) := by
    by_cases q : w = i
    · rw [decide_eq_true q, decide_eq_true (by omega)]
    · rw [decide_eq_false q, decide_eq_false (by omega)]
  rw [show (64 : Nat) = 2 ^ 6 from rfl, Nat.testBit_div_two_pow, Nat.testBit_or, Nat.testBit_or, Nat.testBit_or, Nat.testBit_div_two_pow, Nat.testBit_two_pow, Nat.testBit_two_pow, Nat.add_comm i, this, e, Bool.false_or]
/-- the reference's bids in numbers -/
def BV9 (b x p : Nat → Nat) (m : Nat) (h : Hp) : Prop := m ≤ 10 ∧ ∀ k, k < m → (b k < 5 ∧ 1 ≤ x k ∧ x k < 64 ∧ 1 ≤ p k ∧ p k ≤ 999) ∧ gI h (eb h k) 0 = ii (b k) ∧ gI h (eb h k) 1 = ii (x k) ∧ gI h (eb h k) 2 = ii (p k)
def pr9 (a : Nat) : Int32 × Int32 := (ii (a % 64), ii (a / 64))
theorem mcw_step (V : BV9 b x p m h) {k : Nat} (hk : k < m) (S a : Nat) (ha : a < 2048) (w : Int32) (hw : ∀ j, j < 5 → decide (ii j = w) = false ∨ w = ii j) :
    mcwS h (ii S) w k (some (pr9 a)) = if S.testBit k = true then (if ii (b k) = w then none else if a &&& nd9 b x k = 0 then some (pr9 (a ||| nd9 b x k)) else none) else some (pr9 a) := by
  obtain ⟨m1, V2⟩ := V
  obtain ⟨⟨b1, x1, x2, p1, p2⟩, g0, g1, g2⟩ := V2 k hk
  unfold mcwS pr9
  dsimp only
  have e3 : (ii (a / 64) >>> (ii (b k) &&& 31)) &&& 1 = 1 ↔ (a / 64).testBit (b k) = true := by rw [bit_o, tb_ii _ (show b k < 32 by omega)]
  have hb : (1 : Int32) <<< (ii (b k) &&& 31) = ii (2 ^ b k) := bitN_eq _ (by omega)
  rw [tb_ii S (show k < 32 by omega), g0, g1, hb, ii_or, ii_or]
  cases S.testBit k with
  | false => rfl
  | true =>
    rw [if_pos rfl, if_pos rfl]
    by_cases c0 : ii (b k) = w
    · rw [if_pos (Or.inl c0), if_pos c0]
    · rw [if_neg c0]
      have hlt : a % 64 &&& x k < 64 := Nat.and_lt_two_pow (n := 6) _ x2
      have z : (ii (a % 64) &&& ii (x k) = 0) = (a % 64 &&& x k = 0) := by
        rw [ii_and]
        exact ii_inj (j := 0) (by omega) (by omega)
      unfold nd9
      by_cases c1 : a &&& (x k ||| 2 ^ (6 + b k)) = 0
      · obtain ⟨c2, c3⟩ := (and_nd x2).mp c1
        rw [if_pos c1, if_neg, or_mod x2, or_div x2]
        rintro (q | q | q)
        · exact c0 q
        · exact q (z.mpr c2)
        · have := e3.mp q
          rw [c3] at this
          cases this
      · rw [if_neg c1, if_pos]
        by_cases c2 : a % 64 &&& x k = 0
        · refine Or.inr (Or.inr ?_)
          cases c3 : (a / 64).testBit (b k) with
          | true => exact e3.mpr c3
          | false => exact absurd ((and_nd x2).mpr ⟨c2, c3⟩) c1
        · exact Or.inr (Or.inl fun q => c2 (z.mp q))
theorem BV9.xb (V : BV9 b x p m h) : ∀ i, i < m → x i < 64 ∧ b i < 5 := fun i hi => ⟨(V.2 i hi).1.2.2.1, (V.2 i hi).1.1⟩
theorem mcw_none (h : Hp) (s w : Int32) (k : Nat) : mcwS h s w k none = none := rfl
/-- all bidders may win -/
theorem mcw_all (V : BV9 b x p m h) (S : Nat) : ∀ k, k ≤ m → upto (mcwS h (ii S) (-1)) k 0 (some (0, 0)) = (ms b x S k).map pr9
  | 0, _ => rfl
  | k + 1, hk => by
    rw [upto_end, mcw_all V S k (by omega), Nat.zero_add, ms_s]
    cases e : ms b x S k with
    | none =>
      rw [Option.map_none, mcw_none]
      cases S.testBit k <;> rfl
    | some a =>
      have hb := V.xb k (by omega)
      rw [Option.map_some, mcw_step V (show k < m by omega) S a (ms_lt (fun i hi => V.xb i (by omega)) a e) (-1) (fun j hj => Or.inl (decide_eq_false (ii_m1 (by omega)))), if_neg (ii_m1 (show b k < 2147483648 by omega))]
      cases S.testBit k with
      | false => rfl
      | true =>
        dsimp only
        rw [if_pos rfl, if_pos rfl]
        by_cases c1 : a &&& nd9 b x k = 0
        · rw [if_pos c1, if_pos c1]; rfl
        · rw [if_neg c1, if_neg c1]; rfl
/-- all but one -/
theorem mcw_but (V : BV9 b x p m h) (S : Nat) {w : Nat} (hw : w < 5) : ∀ k, k ≤ m → upto (mcwS h (ii S) (ii w)) k 0 (some (0, 0)) = if ho b w S k = true then none else (ms b x S k).map pr9
  | 0, _ => rfl
  | k + 1, hk => by
    have hb := V.xb k (by omega)
    have ew : (ii (b k) = ii w) = (b k = w) := ii_inj (by omega) (by omega)
    rw [upto_end, mcw_but V S hw k (by omega), Nat.zero_add, ho_s]
    cases e0 : ho b w S k with
    | true =>
      rw [if_pos rfl, Bool.true_or, if_pos rfl, mcw_none]
    | false =>
      rw [if_neg (by decide), Bool.false_or, ms_s]
      cases e : ms b x S k with
      | none =>
        rw [Option.map_none, mcw_none]
        cases S.testBit k <;> simp
      | some a =>
        rw [Option.map_some, mcw_step V (show k < m by omega) S a (ms_lt (fun i hi => V.xb i (by omega)) a e) (ii w) (fun j hj => by
          by_cases q : ii j = ii w
          · exact Or.inr q.symm
          · exact Or.inl (decide_eq_false q))]
        cases S.testBit k with
        | false => simp
        | true =>
          dsimp only
          rw [if_pos rfl, if_pos rfl, Bool.true_and]
          simp only [ew]
          by_cases q : b k = w
          · rw [if_pos q, decide_eq_true q, if_pos rfl]
          · rw [if_neg q, decide_eq_false q, if_neg (show ¬ (false = true) by decide)]
            by_cases c1 : a &&& nd9 b x k = 0
            · rw [if_pos c1, if_pos c1]; rfl
            · rw [if_neg c1, if_neg c1]; rfl
theorem mcw_n (V : BV9 b x p m h) (S : Nat) : mcw h (ii S) (-1) m = va9 b x S m := by
  unfold mcw va9
  rw [mcw_all V S m (Nat.le_refl _)]
  cases ms b x S m <;> rfl
theorem mcw_w (V : BV9 b x p m h) (S : Nat) {w : Nat} (hw : w < 5) : mcw h (ii S) (ii w) m = (!ho b w S m && va9 b x S m) := by
  unfold mcw va9
  rw [mcw_but V S hw m (Nat.le_refl _)]
  cases ho b w S m <;> cases ms b x S m <;> rfl
/-- the prices of those of s that are not of w -/
def sX (b p : Nat → Nat) (w s : Nat) : Nat → Nat
  | 0 => 0
  | m + 1 => sX b p w s m + (if s.testBit m = true ∧ ¬ b m = w then p m else 0)
theorem sX_s (w s m : Nat) : sX b p w s (m + 1) = sX b p w s m + (if s.testBit m = true ∧ ¬ b m = w then p m else 0) := rfl
theorem mpr_n (V : BV9 b x p m h) (S : Nat) : ∀ k, k ≤ m → upto (mprS h (ii S) (-1)) k 0 0 = ii (sP p S k)
  | 0, _ => rfl
  | k + 1, hk => by
    obtain ⟨⟨b1, x1, x2, p1, p2⟩, g0, g1, g2⟩ := V.2 k (by omega)
    have := V.1
    rw [upto_end, mpr_n V S k (by omega), Nat.zero_add, sP_s]
    unfold mprS
    rw [tb_ii S (show k < 32 by omega), g0, g2, if_neg (ii_m1 (show b k < 2147483648 by omega)), ii_add]
    cases S.testBit k <;> simp
theorem mpr_w (V : BV9 b x p m h) (S : Nat) {w : Nat} (hw : w < 5) : ∀ k, k ≤ m → upto (mprS h (ii S) (ii w)) k 0 0 = ii (sX b p w S k)
  | 0, _ => rfl
  | k + 1, hk => by
    obtain ⟨⟨b1, x1, x2, p1, p2⟩, g0, g1, g2⟩ := V.2 k (by omega)
    have := V.1
    have ew : (ii (b k) = ii w) = (b k = w) := ii_inj (by omega) (by omega)
    rw [upto_end, mpr_w V S hw k (by omega), Nat.zero_add, sX_s]
    unfold mprS
    rw [tb_ii S (show k < 32 by omega), g0, g2, ii_add]
    simp only [ew]
    cases S.testBit k with
    | false => simp
    | true =>
      by_cases q : b k = w
      · simp [q]
      · simp [q]
theorem BV9.le (V : BV9 b x p m h) (s : Nat) : sP p s m ≤ 9990 := by
  have h1 := sP_le (p := p) (s := s) (m := m) fun i hi => (V.2 i hi).1.2.2.2.2
  have := V.1
  omega
theorem p1024n (hm : m ≤ 10) : 2 ^ m ≤ 1024 := by
  have : ∀ m, m ≤ 10 → 2 ^ m ≤ 1024 := by decide
  exact this m hm
theorem mwn_n (V : BV9 b x p m h) : ∀ k, k ≤ 2 ^ m → upto (mwnS h (-1) m) k 0 0 = ii (am b x p m k)
  | 0, _ => rfl
  | k + 1, hk => by
    have h1 := V.le (am b x p m k)
    have h2 := V.le k
    have hlt : (ii (sP p (am b x p m k) m) < ii (sP p k m)) = (sP p (am b x p m k) m < sP p k m) := ii_lt (by omega) (by omega)
    rw [upto_end, mwn_n V k (by omega), Nat.zero_add, am_s]
    unfold mwnS mpr
    rw [mcw_n V k, mpr_n V _ m (Nat.le_refl _), mpr_n V _ m (Nat.le_refl _)]
    simp only [hlt]
    cases va9 b x k m with
    | false => simp
    | true =>
      by_cases q : sP p (am b x p m k) m < sP p k m
      · simp [q]
      · simp [q]
/-- the best of the sets under k without w -/
def aw (b x p : Nat → Nat) (c w : Nat) : Nat → Nat
  | 0 => 0
  | k + 1 => if va9 b x k c = true ∧ ho b w k c = false ∧ sP p (aw b x p c w k) c < sP p k c then k else aw b x p c w k
theorem aw_s (c w k : Nat) : aw b x p c w (k + 1) = if va9 b x k c = true ∧ ho b w k c = false ∧ sP p (aw b x p c w k) c < sP p k c then k else aw b x p c w k := rfl
theorem sP_0 : ∀ m, sP p 0 m = 0
  | 0 => rfl
  | m + 1 => by
    rw [sP_s, sP_0 m, Nat.zero_testBit, if_neg (by decide)]
theorem aw_um {c w : Nat} : ∀ k, sP p (aw b x p c w k) c = um b x p c w k
  | 0 => sP_0 c
  | k + 1 => by
    have ih := aw_um (c := c) (w := w) k
    rw [aw_s, um_s, ih]
    split
    · rfl
    · exact ih
theorem mwn_w (V : BV9 b x p m h) {w : Nat} (hw : w < 5) : ∀ k, k ≤ 2 ^ m → upto (mwnS h (ii w) m) k 0 0 = ii (aw b x p m w k)
  | 0, _ => rfl
  | k + 1, hk => by
    have h1 := V.le (aw b x p m w k)
    have h2 := V.le k
    have hlt : (ii (sP p (aw b x p m w k) m) < ii (sP p k m)) = (sP p (aw b x p m w k) m < sP p k m) := ii_lt (by omega) (by omega)
    rw [upto_end, mwn_w V hw k (by omega), Nat.zero_add, aw_s]
    unfold mwnS mpr
    rw [mcw_w V k hw, mpr_n V _ m (Nat.le_refl _), mpr_n V _ m (Nat.le_refl _)]
    simp only [hlt]
    cases va9 b x k m with
    | false => simp
    | true =>
      cases ho b w k m with
      | true => simp
      | false =>
        by_cases q : sP p (aw b x p m w k) m < sP p k m
        · simp [q]
        · simp [q]
/-- what bidder w pays for the bids -/
def pay9 (b x p : Nat → Nat) (c w : Nat) : Int32 := if sX b p w (am b x p c (2 ^ c)) c = sP p (am b x p c (2 ^ c)) c then 0 else ii (um b x p c w (2 ^ c)) - ii (sX b p w (am b x p c (2 ^ c)) c)
theorem sX_le {w s : Nat} : ∀ m, sX b p w s m ≤ sP p s m
  | 0 => Nat.le_refl _
  | m + 1 => by
    have ih := sX_le (w := w) (s := s) m
    rw [sX_s, sP_s]
    by_cases q : s.testBit m = true
    · by_cases q2 : b m = w
      · simp [q, q2]; omega
      · simp [q, q2]; omega
    · simp [q]; omega
theorem mwn_v (V : BV9 b x p m h) : mwn h (-1) m = ii (am b x p m (2 ^ m)) := mwn_n V (2 ^ m) (Nat.le_refl _)
theorem mpy_v (V : BV9 b x p m h) {w : Nat} (hw : w < 5) : mpy h (ii w) (mwn h (-1) m) m = pay9 b x p m w := by
  have h1 := V.le (am b x p m (2 ^ m))
  have h2 := sX_le (b := b) (p := p) (w := w) (s := am b x p m (2 ^ m)) m
  have e : mwn h (ii w) m = ii (aw b x p m w (2 ^ m)) := mwn_w V hw (2 ^ m) (Nat.le_refl _)
  rw [mwn_v V]
  unfold mpy pay9
  rw [e]
  unfold mpr
  rw [mpr_w V _ hw m (Nat.le_refl _), mpr_n V _ m (Nat.le_refl _), mpr_n V _ m (Nat.le_refl _), aw_um]
  have e2 : (ii (sX b p w (am b x p m (2 ^ m)) m) = ii (sP p (am b x p m (2 ^ m)) m)) = (sX b p w (am b x p m (2 ^ m)) m = sP p (am b x p m (2 ^ m)) m) := ii_inj (by omega) (by omega)
  simp only [e2]
end XM2
