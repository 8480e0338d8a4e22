/-! pbase: small facts for walks in M -/
section SETS
theorem s1_0 (a : Option MV) (ls : Lo) (v : Option MV) : lSet1 (a :: ls) 0 v = v :: ls := rfl
theorem s1_1i (y : Int32) (a : Option MV) (ls : Lo) (v : Option MV) : lSet1 (some (.inl y) :: a :: ls) 1 v = some (.inl y) :: v :: ls := rfl
theorem s1_1r (y : Option Nat) (a : Option MV) (ls : Lo) (v : Option MV) : lSet1 (some (.inr (.inl y)) :: a :: ls) 1 v = some (.inr (.inl y)) :: v :: ls := rfl
theorem s1_1w (y : Int64 ⊕ UInt64) (a : Option MV) (ls : Lo) (v : Option MV) : lSet1 (some (.inr (.inr y)) :: a :: ls) 1 v = none :: v :: ls := rfl
theorem s1_1n (a : Option MV) (ls : Lo) (v : Option MV) : lSet1 (none :: a :: ls) 1 v = none :: v :: ls := rfl
theorem lKill_s (a b : Option MV) (ls : Lo) (k : Nat) : lKill (a :: b :: ls) (k + 2) = a :: lKill (b :: ls) (k + 1) := by
  unfold lKill
  dsimp only
  rw [List.getElem?_cons_succ]
  cases (b :: ls)[k]? with
  | none => rfl
  | some o =>
    cases o with
    | none => rfl
    | some v =>
      dsimp only
      split <;> rfl
theorem s1_s (a b : Option MV) (ls : Lo) (k : Nat) (v : Option MV) : lSet1 (a :: b :: ls) (k + 2) v = a :: lSet1 (b :: ls) (k + 1) v := by
  unfold lSet1
  rw [lKill_s]
  rfl
theorem s2_0 (a b : Option MV) (ls : Lo) (v : MV) : lSet2 (a :: b :: ls) 0 v = some v :: none :: ls := rfl
theorem s2_1i (y : Int32) (a b : Option MV) (ls : Lo) (v : MV) : lSet2 (some (.inl y) :: a :: b :: ls) 1 v = some (.inl y) :: some v :: none :: ls := rfl
theorem s2_1r (y : Option Nat) (a b : Option MV) (ls : Lo) (v : MV) : lSet2 (some (.inr (.inl y)) :: a :: b :: ls) 1 v = some (.inr (.inl y)) :: some v :: none :: ls := rfl
theorem s2_1w (y : Int64 ⊕ UInt64) (a b : Option MV) (ls : Lo) (v : MV) : lSet2 (some (.inr (.inr y)) :: a :: b :: ls) 1 v = none :: some v :: none :: ls := rfl
theorem s2_1n (a b : Option MV) (ls : Lo) (v : MV) : lSet2 (none :: a :: b :: ls) 1 v = none :: some v :: none :: ls := rfl
theorem s2_s (a b : Option MV) (ls : Lo) (k : Nat) (v : MV) : lSet2 (a :: b :: ls) (k + 2) v = a :: lSet2 (b :: ls) (k + 1) v := by
  unfold lSet2
  rw [lKill_s]
  rfl
theorem catS_0 : catS [] = 0 := rfl
theorem catS_i (x : Int32) (st : Sk) : catS (.inl x :: st) = 1 + catS st := rfl
theorem catS_r (x : Option Nat) (st : Sk) : catS (.inr (.inl x) :: st) = 1 + catS st := rfl
theorem catS_w (x : Int64 ⊕ UInt64) (st : Sk) : catS (.inr (.inr x) :: st) = 2 + catS st := rfl
end SETS
theorem one0 : ((1 : Int32) = 0) = False := eq_false (by decide)
theorem c8_n : c8 [] = true := by decide
/-- a truth value as the machine has it -/
def bI (b : Bool) : Int32 := if b = true then 1 else 0
theorem bI_z (b : Bool) : (bI b = 0) = (b = false) := by cases b <;> simp [bI]
theorem bI_nz (b : Bool) : (¬ bI b = 0) = (b = true) := by cases b <;> simp [bI]
theorem bI_01 (b : Bool) : bI b = 0 ∨ bI b = 1 := by cases b <;> simp [bI]
theorem bI_o (b : Bool) : (bI b = 1) = (b = true) := by cases b <;> simp [bI]
theorem b_ft (b : Bool) : (b = false ∨ b = true) = True := by cases b <;> simp
theorem bI_1 : bI true = 1 := rfl
theorem bI_0 : bI false = 0 := rfl
def ii (k : Nat) : Int32 := Int32.ofNat k
theorem ii_lt {i j : Nat} (hi : i < 2147483648) (hj : j < 2147483648) : (ii i < ii j) = (i < j) := propext (by unfold ii; exact Int32.ofNat_lt_ofNat hi hj)
theorem ii_le {i j : Nat} (hi : i < 2147483648) (hj : j < 2147483648) : (ii i ≤ ii j) = (i ≤ j) := propext (by unfold ii; exact Int32.ofNat_le_ofNat hi hj)
theorem ii_nat {i : Nat} (hi : i < 2147483648) : (ii i).toNatClampNeg = i := by
  unfold ii
  rw [Int32.toNatClampNeg, Int32.toInt_ofNat_of_lt hi]
  rfl
theorem ii_succ (i : Nat) : ii i + 1 = ii (i + 1) := by
  show Int32.ofNat i + Int32.ofNat 1 = Int32.ofNat (i + 1)
  rw [← Int32.ofNat_add]
theorem ii_inj {i j : Nat} (hi : i < 2147483648) (hj : j < 2147483648) : (ii i = ii j) = (i = j) := by
  apply propext
  constructor
  · intro h
    rw [← ii_nat hi, ← ii_nat hj, h]
  · rintro rfl; rfl
theorem inL_n {h : Hp} {a i : Nat} (hi : i < 2147483648) (hl : i < ln h a) : inL h a (ii i) = true := by
  unfold inL
  rw [ii_nat hi]
  have : (0 : Int32) ≤ ii i := (Int32.ofNat_le_ofNat (show 0 < 2147483648 by decide) hi).mpr (Nat.zero_le _)
  simp [this, hl]
/-- the kinds and the lengths of the objects that stay: 1 the country, 2 land, 3 its nodes, 4 its hearers, 5 + 9 i .. the nodes, 77 routes, 78 .. 113 its tables, 114 traffic, 115 market, 116 .. 120 its rows -/
def KT (a : Nat) : Nat := if a = 0 then 100 else if a = 1 then 8 else if a = 2 then 2 else if a = 3 then 102 else if a = 4 then 100 else
  if a < 77 then (match (a - 5) % 9 with | 0 => 4 | 1 => 1 | 2 => 103 | 3 => 0 | 4 => 0 | 5 => 0 | 6 => 0 | 7 => 5 | _ => 101) else
  if a = 77 then 6 else if a < 114 then (if (a - 78) % 9 = 0 then 104 else 100) else if a = 114 then 7 else if a = 115 then 3 else 100
def LT (a : Nat) : Nat := if a = 3 ∨ a = 4 then 8 else if a < 77 then (match (a - 5) % 9 with | 2 => 4 | 8 => 8 | _ => 0) else if a < 114 then 8 else if a = 116 ∨ a = 117 then 10 else if a = 118 ∨ a = 119 then 1024 else 5
def KS (h : Hp) : Prop := 121 ≤ nx h ∧ ∀ a, 1 ≤ a → a < 121 → kd h a = KT a ∧ (100 ≤ KT a → ln h a = LT a)
theorem KS.k {h : Hp} (S : KS h) {a c : Nat} (h1 : 1 ≤ a) (h2 : a < 121) (hc : KT a = c) : isK h a c = true := by
  unfold isK
  rw [(S.2 a h1 h2).1, hc]
  simp
  exact Nat.lt_of_lt_of_le h2 S.1
theorem KS.l {h : Hp} (S : KS h) {a n : Nat} (h1 : 1 ≤ a) (h2 : a < 121) (h3 : 100 ≤ KT a) (hn : LT a = n) : ln h a = n := (S.2 a h1 h2).2 h3 ▸ hn
